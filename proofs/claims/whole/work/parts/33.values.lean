/-! value, measure: contracts from the invariant, and pairs out of contracts. Written by wip/gen/gen33.py -/
theorem Iv_k {c : Int} {g G r R : GI} (f : ∀ k, k ≠ 6 → k ≠ 13 → k ≠ 30 → k ≠ 31 → k ≠ 32 → G k = g k) (fr : ∀ k, k ≠ 6 → R k = r k) (h6 : R6 R) (i : Iv c g g r) : Iv c G G R := by
  obtain ⟨i1, i2, i3, i4, i5, i6, i7, i8, i9⟩ := i
  have F : ∀ k, (k ≤ 5 ∨ (7 ≤ k ∧ k ≤ 12) ∨ (14 ≤ k ∧ k ≤ 29)) → G k = g k := fun k h => f k (by omega) (by omega) (by omega) (by omega) (by omega)
  refine ⟨⟨St_F i1.1 fr, Rg_F i1.2.1 fr h6, h6, ?_⟩, Isg_c (g := g) (h := g) (by rw [F 7 (by omega)]) (by rw [F 8 (by omega)]) i2, Itx_c (g := g) (h := g) (by rw [F 5 (by omega)]) (by rw [F 8 (by omega)]) (by rw [F 12 (by omega)]) (by rw [F 21 (by omega)]) i3,
    Iru_c (g := g) (h := g) (r := r) (by omega) i1.2.1 (fun _ _ _ => by rw [F 1 (by omega)]) (fun _ _ _ => by rw [F 10 (by omega)]) (F 2 (by omega)) (by rw [F 7 (by omega)]) (by rw [F 8 (by omega)]) (by rw [F 22 (by omega)]) (by rw [F 23 (by omega)]) (by rw [F 24 (by omega)]) (by rw [F 8 (by omega)]) (by rw [fr 14 (by decide)]) i4,
    Iwd_c (g := g) (h := g) (by omega) (by rw [F 1 (by omega)]) (by rw [F 10 (by omega)]) (by rw [F 7 (by omega)]) (by rw [F 8 (by omega)]) (by rw [F 25 (by omega)]) (by rw [F 8 (by omega)]) i5,
    Inw_c (g := g) (h := g) (by rw [F 0 (by omega)]) (by rw [F 9 (by omega)]) (by rw [F 27 (by omega)]) (by rw [F 28 (by omega)]) (fun _ _ _ => by rw [F 26 (by omega)]) i6,
    Ist_c (g := g) (h := g) (r := r) i1.2.1 (by rw [F 7 (by omega)]) (F 4 (by omega)) (fun _ _ _ => by rw [F 0 (by omega)]) (fun _ _ _ => by rw [F 9 (by omega)]) (by rw [F 8 (by omega)]) (by rw [F 8 (by omega)]) (by rw [F 8 (by omega)]) (by rw [F 29 (by omega)]) (fun _ _ => by rw [F 27 (by omega)]) (fun _ _ => by rw [F 28 (by omega)]) (fun _ _ => by rw [F 26 (by omega)]) (by rw [F 22 (by omega)]) (by rw [F 23 (by omega)]) (by rw [fr 15 (by decide)]) i7,
    Ish_c (g := g) (h := g) (F 3 (by omega)) (F 11 (by omega)) (by rw [F 17 (by omega)]) (by rw [F 18 (by omega)]) (by rw [F 19 (by omega)]) i8, Ila_c (g := g) (h := g) (by rw [F 7 (by omega)]) (by rw [F 8 (by omega)]) i9⟩
  unfold Pj
  rw [fr 14 (by decide), fr 15 (by decide)]
  exact i1.2.2.2
theorem Iv_FJ {c : Int} {g r g1 r1 : GI} (f : FJ g r g1 r1) (i : Iv c g g r) : Iv c g1 g1 r1 := Iv_k (fun k a b _ _ _ => f.1 k a b) f.2.1 f.2.2 i
theorem Iv_F8 {c : Int} {g g1 r : GI} (f : F8 g g1) (i : Iv c g g r) : Iv c g1 g1 r := Iv_k (fun k _ _ a b d => f k a b d) (fun _ _ => rfl) i.1.2.2.1 i
/-- a contract of the component's; of the reference's: nothing but scratch changes -/
def C7 (m : Nat) (as : List AV) (v : GI → AV) : Prop := ∀ c g r, 0 ≤ c → c ≤ 3072 → Iv c g g r → Ou m 0 (am_ini m (vR 7 0 :: as)) [] g r (fun x g1 r1 => x = some (v g) ∧ FJ g r g1 r1)
def C8 (m : Nat) (as : List AV) (v : GI → AV) : Prop := ∀ c g r, 0 ≤ c → c ≤ 3072 → Iv c g g r → Ou m 0 (am_ini m (vR 8 0 :: as)) [] g r (fun x g1 r1 => x = some (v g) ∧ r1 = r ∧ F8 g g1)
/-- a function of the reference's kinds -/
def Mf {α : Type} (v : GI → α) : Prop := ∀ g h : GI, (∀ k, isM k → k ≠ 30 → k ≠ 31 → k ≠ 32 → h k = g k) → v h = v g
theorem pr_of {m7 m8 : Nat} {as : List AV} {v : GI → AV} (h7 : C7 m7 as v) (h8 : C8 m8 as v) (hm : Mf v) : Pr m7 m8 as := by
  intro c g r c0 c1 i
  obtain ⟨n1, v1, g1, r1, e1, e2, e3⟩ := h7 c g r c0 c1 i
  subst e2
  refine ⟨n1, _, _, _, e1, ?_⟩
  obtain ⟨v2, g2, r2, d1, d2, d3, d4⟩ := rt_ex (h8 c g1 r1 c0 c1 (Iv_FJ e3 i))
  subst d2; subst d3
  rw [hm g g1 (fun k hk _ _ _ => e3.1 k (isM_ne hk (by decide)) (isM_ne hk (by decide)))] at d1
  exact ⟨g2, _, d1, Iv_up (Iv_F8 d4 (Iv_FJ e3 i)), (d4 34 (by decide) (by decide) (by decide)).trans (e3.1 34 (by decide) (by decide)), (d4 35 (by decide) (by decide) (by decide)).trans (e3.1 35 (by decide) (by decide))⟩
section VALUES
variable {g h r : GI} {c : Int}
def wsd (g : GI) (i s k : Int) : Int := g 22 0 (6 * (2 * i + s) + k)
theorem ru_b (i : Iru c g h r) {k s : Int} (k0 : 0 ≤ k) (k1 : k < h 8 0 8) (hs : s = 0 ∨ s = 1) : Bw (h 23 0 (2 * k + s)) (wsd h k s) := by
  have b := i.2.1.2 k k0 k1
  rcases hs with hs | hs <;> subst hs
  · have b1 := b.1.1
    unfold Bw L8 W8 at b1
    refine ⟨b1.1, fun j j0 j1 => ?_⟩
    unfold wsd
    rw [show 6 * (2 * k + 0) + j = 12 * k + 6 * 0 + j by omega]; exact b1.2 j j0 j1
  · have b1 := b.2.1
    unfold Bw L8 W8 at b1
    refine ⟨b1.1, fun j j0 j1 => ?_⟩
    unfold wsd
    rw [show 6 * (2 * k + 1) + j = 12 * k + 6 * 1 + j by omega]; exact b1.2 j j0 j1
noncomputable def vlu (g : GI) (i s x y : Int) : Int := cif (vo (g 27 0 8) (g 28 0 8) (E8 g 8) (wsd g i s) (g 23 0 (2 * i + s)).toNat) (-5) (mt (g 27 0 8) (g 28 0 8) (E8 g 8) (wsd g i s) (g 23 0 (2 * i + s)).toNat x y)
noncomputable def vlS (g : GI) (i s x y : Int) : Int := cif ((0 ≤ i ∧ i < g 8 0 8) ∧ (s = 0 ∨ s = 1) ∧ (0 ≤ x ∧ x < g 28 0 8) ∧ (0 ≤ y ∧ y < g 28 0 8)) (vlu g i s x y) (-2)
theorem E8_m (hm : h 26 = g 26) (d : Int) : E8 h d = E8 g d := by funext s z y; unfold E8; rw [hm]
theorem vlu_m (i s x y : Int) : Mf (fun g => vlu g i s x y) := fun g h hm => by
  have e : ∀ k, (k = 22 ∨ k = 23 ∨ k = 26 ∨ k = 27 ∨ k = 28) → h k = g k := fun k hk => hm k (Or.inr (by omega)) (by omega) (by omega) (by omega)
  have ew : wsd h i s = wsd g i s := by funext k; unfold wsd; rw [e 22 (by omega)]
  show vlu h i s x y = vlu g i s x y
  unfold vlu
  rw [ew, E8_m (e 26 (by omega)), e 23 (by omega), e 27 (by omega), e 28 (by omega)]
theorem vlS_m (i s x y : Int) : Mf (fun g => vI (vlS g i s x y)) := fun g h hm => by
  show vI (vlS h i s x y) = vI (vlS g i s x y)
  unfold vlS
  rw [show vlu h i s x y = vlu g i s x y from vlu_m i s x y g h hm, hm 8 (Or.inl rfl) (by decide) (by decide) (by decide), hm 28 (Or.inr (by decide)) (by decide) (by decide) (by decide)]
end VALUES
theorem C7_value (i : Int) (s : Int) (x : Int) (y : Int) : C7 59 [vI i, vI s, vI x, vI y] (fun g => vI (vlS g i s x y)) := by
  intro c g r hc0 hc1 hI
  have hI' := hI
  obtain ⟨⟨hS, hR, h6, hP⟩, hsg, htx, hru, hwd, hnw, hst, hsh, hla⟩ := hI'
  show Ou 59 0 [vR 7 0, vI i, vI s, vI x, vI y] [] g r (fun xx g1 r1 => xx = some (vI (vlS g i s x y)) ∧ FJ g r g1 r1)
  obtain ⟨sg1, sg2, sg3⟩ := hI.2.1
  obtain ⟨tx1, tx2, tx3, tx4⟩ := hI.2.2.1
  have ru0 : g 7 0 10 = g 8 0 8 := hI.2.2.2.1.1.1
  have ru1 := hI.2.2.2.1.2.1.1
  have wd0 : g 1 0 1 = g 8 0 14 := hI.2.2.2.2.1.1.1
  have wd1 := hI.2.2.2.2.1.2.1.1
  have wd2 := hI.2.2.2.2.1.2.2
  have nw0 : g 0 0 0 = g 27 0 8 := hI.2.2.2.2.2.1.1.1
  have nw1 : g 0 0 1 = g 28 0 8 := hI.2.2.2.2.2.1.1.2.1
  have nw2 := hI.2.2.2.2.2.1.2.1
  have nw3 := hI.2.2.2.2.2.1.2.2.1
  have st0 := hI.2.2.2.2.2.2.1.1
  have st1 := hI.2.2.2.2.2.2.1.2.1
  have st2 := hI.2.2.2.2.2.2.1.2.2.1
  have la0 : g 7 0 13 = g 8 0 4 := hI.2.2.2.2.2.2.2.2
  refine o_aload_n (n := 1) rfl rfl rfl ?_
  refine o_iload_n (n := 2) rfl rfl rfl ?_
  refine o_invi (n := 5) rfl rfl rfl rfl rfl rfl rfl rfl rfl rfl (c7_isRule _) ?_
  refine o_ifb_eq (n := 8) (t := 38) rfl rfl rfl (fun q5 => ?_) (fun q5 => ?_)
  · refine o_bipush (n := 40) rfl rfl ?_
    refine o_iret rfl rfl ?_
    refine ⟨congrArg (fun z => some (vI z)) ?_, FJ_refl h6⟩
    unfold vlS
    rw [cif_f (by omega)]
  · refine o_iload_n (n := 9) rfl rfl rfl ?_
    refine o_invsi (n := 12) rfl rfl rfl rfl rfl rfl (c7_isSide _) ?_
    refine o_ifb_eq (n := 15) (t := 38) rfl rfl rfl (fun q12 => ?_) (fun q12 => ?_)
    · refine o_bipush (n := 40) rfl rfl ?_
      refine o_iret rfl rfl ?_
      refine ⟨congrArg (fun z => some (vI z)) ?_, FJ_refl h6⟩
      unfold vlS
      rw [cif_f (by omega)]
    · refine o_aload_n (n := 16) rfl rfl rfl ?_
      refine of_7_5 (n := 19) hS rfl rfl ?_
      refine o_iload_n (n := 20) rfl rfl rfl ?_
      refine o_invi (n := 23) rfl rfl rfl rfl rfl rfl rfl rfl rfl (ok_0 (by omega) (by omega)) (c0_counts _ _ (by omega) (by omega)) ?_
      refine o_ifb_eq (n := 26) (t := 38) rfl rfl rfl (fun q23 => ?_) (fun q23 => ?_)
      · refine o_bipush (n := 40) rfl rfl ?_
        refine o_iret rfl rfl ?_
        refine ⟨congrArg (fun z => some (vI z)) ?_, FJ_refl h6⟩
        unfold vlS
        rw [cif_f (by omega)]
      · refine o_aload_n (n := 27) rfl rfl rfl ?_
        refine of_7_5 (n := 30) hS rfl rfl ?_
        refine o_iload (n := 32) rfl rfl rfl ?_
        refine o_invi (n := 35) rfl rfl rfl rfl rfl rfl rfl rfl rfl (ok_0 (by omega) (by omega)) (c0_counts _ _ (by omega) (by omega)) ?_
        refine o_ifb_ne (n := 38) (t := 41) rfl rfl rfl (fun q35 => ?_) (fun q35 => ?_)
        · refine o_aload_n (n := 42) rfl rfl rfl ?_
          refine of_7_7 (n := 45) hS rfl rfl ?_
          refine o_aload_n (n := 46) rfl rfl rfl ?_
          refine of_7_2 (n := 49) hS rfl rfl ?_
          refine o_iload_n (n := 50) rfl rfl rfl ?_
          refine o_ra14 (n := 51) hR rfl rfl (by omega) (by omega) (fun hA50 hB50 => ?_)
          refine o_iload_n (n := 52) rfl rfl rfl ?_
          refine o_invi (n := 55) rfl rfl rfl rfl rfl rfl rfl rfl rfl (ok_2 (by omega) (by omega)) (c2_half hS _ _ hA50 hB50 (by omega)) ?_
          refine o_aload_n (n := 56) rfl rfl rfl ?_
          refine of_7_5 (n := 59) hS rfl rfl ?_
          have hrs := ru_s hru (k := i) (s := s) (by omega) (by omega) (by omega)
          have hrb := ru_b hru (k := i) (s := s) (by omega) (by omega) (by omega)
          obtain ⟨v1, g1, r1, hc1, hv1, f1, hh1⟩ := rt_ex (c6_reckon (g := g) (w := wsd g i s) (E := E8 g 8) hS hR h6 (v := 0) (by omega) (by omega) (e := 0) (by omega) (by omega) hnw.2 hnw.1 (q := 1 + 2 * r 14 0 i + s) (by omega) (by omega) hrb ⟨hrs.1, hrs.2.2⟩ (by rw [al10 (by omega)]; exact hrs.2.1.2))
          subst hv1
          have hS := St_F hS f1.rk
          have hR := Rg_F hR f1.rk f1.r6
          refine o_invv (n := 62) rfl rfl rfl rfl rfl rfl rfl rfl rfl (ok_6 (by omega) (by omega)) (hc1) ?_
          refine o_aload_n (n := 63) rfl rfl rfl ?_
          refine of_7_7 (n := 66) hS rfl rfl ?_
          refine o_geti (n := 69) rfl rfl rfl (ok_6 (by omega) (by omega)) rfl ?_
          refine o_if_eq (n := 72) (t := 77) rfl rfl rfl (fun q69 => ?_) (fun q69 => ?_)
          · refine o_aload_n (n := 78) rfl rfl rfl ?_
            refine of_7_7 (n := 81) hS rfl rfl ?_
            refine o_iload_n (n := 82) rfl rfl rfl ?_
            refine o_iload (n := 84) rfl rfl rfl ?_
            refine o_invi (n := 87) rfl rfl rfl rfl rfl rfl rfl rfl rfl (ok_6 (by omega) (by omega)) (c6_cellAt hR _ _ _ (by omega) (by omega) (by omega) (by omega) (by omega) (by omega)) ?_
            refine o_iret rfl rfl ?_
            refine ⟨congrArg (fun z => some (vI z)) ?_, FJ_7 f1⟩
            unfold vlS vlu
            rw [cif_t (by omega)]
            rcases hh1 with ⟨a1, b1⟩ | ⟨a1, b1, d1⟩
            · first | (rw [cif_t a1]; done) | (exfalso; omega)
            · first | (rw [cif_f a1]; exact d1 x y (by omega) (by omega) (by omega) (by omega)) | (exfalso; omega)
          · refine o_bipush (n := 74) rfl rfl ?_
            refine o_goto (t := 87) rfl rfl ?_
            refine o_iret rfl rfl ?_
            refine ⟨congrArg (fun z => some (vI z)) ?_, FJ_7 f1⟩
            unfold vlS vlu
            rw [cif_t (by omega)]
            rcases hh1 with ⟨a1, b1⟩ | ⟨a1, b1, d1⟩
            · first | (rw [cif_t a1]; done) | (exfalso; omega)
            · first | (rw [cif_f a1]; exact d1 x y (by omega) (by omega) (by omega) (by omega)) | (exfalso; omega)
        · refine o_bipush (n := 40) rfl rfl ?_
          refine o_iret rfl rfl ?_
          refine ⟨congrArg (fun z => some (vI z)) ?_, FJ_refl h6⟩
          unfold vlS
          rw [cif_f (by omega)]
