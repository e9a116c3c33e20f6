/-! falling bits, weak rules: both classes. Written by wip/gen/gen24.py -/
noncomputable def fbl (gr : Int → Int) (st : Int) : Nat → Int → Int → Int
  | 0, _, acc => acc
  | n + 1, i, acc => cif (bt st i) (cif (gr i = 0) 0 (fbl gr st n (i + 1) (cif (gr i = 2) (am_or acc (am_shl 1 i)) acc))) (fbl gr st n (i + 1) acc)
theorem fbl_s {gr : Int → Int} {st : Int} {n : Nat} {i acc : Int} : fbl gr st (n + 1) i acc = cif (bt st i) (cif (gr i = 0) 0 (fbl gr st n (i + 1) (cif (gr i = 2) (am_or acc (am_shl 1 i)) acc))) (fbl gr st n (i + 1) acc) := rfl
noncomputable def FB (ρ n : Int) (E : Int → Int → Int → Int) (m R : Int) (L : Int → Int → Int) (W : Int → Int → Int → Int) (st : Int) : Int := cif (sd ρ n E m) (fbl (gr ρ n E L W) st R.toNat 0 0) 0
theorem bt_0 {i : Int} : ¬ bt 0 i := by
  unfold bt am_shr am_and
  simp
theorem fbl_0 {gr : Int → Int} : ∀ {n : Nat} {i acc : Int}, fbl gr 0 n i acc = acc
  | 0, _, _ => rfl
  | n + 1, i, acc => by rw [fbl_s, cif_f bt_0, fbl_0]
theorem gd_r {ρ n : Int} {A B : Int → Int → Int} : gd ρ n A B = 0 ∨ gd ρ n A B = 1 ∨ gd ρ n A B = 2 := by
  unfold gd cif
  split
  · exact Or.inl rfl
  · split
    · exact Or.inr (Or.inr rfl)
    · exact Or.inr (Or.inl rfl)
theorem gr_r {ρ n : Int} {E : Int → Int → Int → Int} {L : Int → Int → Int} {W : Int → Int → Int → Int} {i : Int} : gr ρ n E L W i = 0 ∨ gr ρ n E L W i = 1 ∨ gr ρ n E L W i = 2 := by
  unfold gr grd
  by_cases h : vo ρ n E (W i 0) (L i 0).toNat
  · rw [cif_t h]; exact Or.inl rfl
  · rw [cif_f h]
    by_cases h' : vo ρ n E (W i 1) (L i 1).toNat
    · rw [cif_t h']; exact Or.inl rfl
    · rw [cif_f h']; exact gd_r
theorem Vu7_J {g r g' r' : GI} {R : Int} {L : Int → Int → Int} {W : Int → Int → Int → Int} (f : FJ g r g' r') (h : Vu7 g r R L W) : Vu7 g' r' R L W := by
  unfold Vu7 Vw7
  rw [f.1 7 (by decide) (by decide), f.1 1 (by decide) (by decide), f.1 10 (by decide) (by decide), f.2.1 14 (by decide)]
  exact h
section FALL2
variable {g r : GI} {ρ n : Int} {E : Int → Int → Int → Int} {R m : Int} {L : Int → Int → Int} {W : Int → Int → Int → Int}
theorem l7_falling (hS : am_St r) (hR : am_Rg r) (h6 : R6 r) {e : Int} (he : 0 ≤ e) (he1 : e < 10) (hb : Br ρ n E) (hV : Vr7 g e ρ n E) (hu : Bu R L W) (hU : Vu7 g r R L W) (st : Int) : ∀ (j : Nat) (k acc : Int) (t : AV) (g1 r1 : GI), (0 ≤ k) → (k + j = R) → (FJ g r g1 r1) → Ou 102 18 [vR 7 0, vR 0 e, vI st, vI acc, vI k, t] [] g1 r1 (fun v g1 r1 => v = some (vI (fbl (gr ρ n E L W) st j k acc)) ∧ FJ g r g1 r1) := by
  intro j
  induction j with
  | zero =>
    intro k acc t g1 r1 i0 i1 f
    have hS0 := hS
    have hR0 := hR
    have hS : am_St r1 := St_F hS0 f.2.1
    have hR : am_Rg r1 := Rg_F hR0 f.2.1 f.2.2
    have hV1 : Vr7 g1 e ρ n E := Vr7_k (f.1 0 (by decide) (by decide)) (f.1 9 (by decide) (by decide)) hV
    have hU1 := Vu7_J f hU
    have eR := hU1.1
    have hu1 := hu.1
    refine o_iload (n := 20) rfl rfl rfl ?_
    refine o_aload_n (n := 21) rfl rfl rfl ?_
    refine o_geti (n := 24) rfl rfl rfl rfl rfl ?_
    refine o_icmp_ge (n := 27) (t := 76) rfl rfl rfl (fun h24 => ?_) (fun h24 => (by exfalso; omega))
    refine o_iload_n (n := 77) rfl rfl rfl ?_
    refine o_iret rfl rfl ?_
    first | (exfalso; omega; done) | exact ⟨rfl, f⟩
  | succ j ih =>
    intro k acc t g1 r1 i0 i1 f
    have hS0 := hS
    have hR0 := hR
    have hS : am_St r1 := St_F hS0 f.2.1
    have hR : am_Rg r1 := Rg_F hR0 f.2.1 f.2.2
    have hV1 : Vr7 g1 e ρ n E := Vr7_k (f.1 0 (by decide) (by decide)) (f.1 9 (by decide) (by decide)) hV
    have hU1 := Vu7_J f hU
    have eR := hU1.1
    have hu1 := hu.1
    refine o_iload (n := 20) rfl rfl rfl ?_
    refine o_aload_n (n := 21) rfl rfl rfl ?_
    refine o_geti (n := 24) rfl rfl rfl rfl rfl ?_
    refine o_icmp_ge (n := 27) (t := 76) rfl rfl rfl (fun h24 => (by exfalso; omega)) (fun h24 => ?_)
    refine o_iload_n (n := 28) rfl rfl rfl ?_
    refine o_iload (n := 30) rfl rfl rfl ?_
    refine o_ishr (n := 31) rfl rfl ?_
    refine o_iconst (n := 32) rfl rfl ?_
    refine o_iand (n := 33) rfl rfl ?_
    refine o_if_eq (n := 36) (t := 70) rfl rfl rfl (fun h33 => ?_) (fun h33 => ?_)
    · refine o_iinc_4 (n := 73) rfl rfl rfl (by omega) ?_
      refine o_goto (t := 18) rfl rfl ?_
      first
        | (rw [fbl_s, cif_f (bt_eq.mp h33)]; exact ih (k + 1) acc _ _ _ (by omega) (by omega) f)
        | (rw [fbl_s, cif_t (bt_ne.mp h33), cif_f h52, cif_t h60]; exact ih (k + 1) _ _ _ _ (by omega) (by omega) hf2)
        | (rw [fbl_s, cif_t (bt_ne.mp h33), cif_f h52, cif_f h60]; exact ih (k + 1) acc _ _ _ (by omega) (by omega) hf2)
    · refine o_aload_n (n := 37) rfl rfl rfl ?_
      refine o_aload_n (n := 38) rfl rfl rfl ?_
      refine of_7_2 (n := 41) hS rfl rfl ?_
      refine o_iload (n := 43) rfl rfl rfl ?_
      refine o_ra14 (n := 44) hR rfl rfl (by omega) (by omega) (fun hA43 hB43 => ?_)
      refine o_aload_n (n := 45) rfl rfl rfl ?_
      have hk := hU1.2 k i0 (by omega)
      have hku := hu.2 k i0 (by omega)
      obtain ⟨v2, g2, r2, hc, hv2, f2⟩ := rt_ex (c7_judge hS hR f.2.2 he he1 hA43 hB43 hb hV1 hku.1.1 hku.2.1 hku.1.2 hku.2.2 hk.1 hk.2)
      subst hv2
      have hf2 := FJ_tr f f2
      have hgr : grd ρ n E (W k 0) (L k 0) (W k 1) (L k 1) = gr ρ n E L W k := rfl
      rw [hgr] at hc
      refine o_invi (n := 48) rfl rfl rfl rfl rfl rfl rfl rfl rfl rfl (hc) ?_
      refine o_istore_5 (n := 50) rfl rfl rfl ?_
      refine o_iload (n := 52) rfl rfl rfl ?_
      refine o_if_ne (n := 55) (t := 57) rfl rfl rfl (fun h52 => ?_) (fun h52 => ?_)
      · refine o_iload (n := 59) rfl rfl rfl ?_
        refine o_iconst (n := 60) rfl rfl ?_
        refine o_icmp_ne (n := 63) (t := 70) rfl rfl rfl (fun h60 => ?_) (fun h60 => ?_)
        · refine o_iinc_4 (n := 73) rfl rfl rfl (by omega) ?_
          refine o_goto (t := 18) rfl rfl ?_
          first
            | (rw [fbl_s, cif_f (bt_eq.mp h33)]; exact ih (k + 1) acc _ _ _ (by omega) (by omega) f)
            | (rw [fbl_s, cif_t (bt_ne.mp h33), cif_f h52, cif_t h60]; exact ih (k + 1) _ _ _ _ (by omega) (by omega) hf2)
            | (rw [fbl_s, cif_t (bt_ne.mp h33), cif_f h52, cif_f h60]; exact ih (k + 1) acc _ _ _ (by omega) (by omega) hf2)
        · refine o_iload_n (n := 64) rfl rfl rfl ?_
          refine o_iconst (n := 65) rfl rfl ?_
          refine o_iload (n := 67) rfl rfl rfl ?_
          refine o_ishl (n := 68) rfl rfl ?_
          refine o_ior (n := 69) rfl rfl ?_
          refine o_istore_3 (n := 70) rfl rfl rfl ?_
          refine o_iinc_4 (n := 73) rfl rfl rfl (by omega) ?_
          refine o_goto (t := 18) rfl rfl ?_
          first
            | (rw [fbl_s, cif_f (bt_eq.mp h33)]; exact ih (k + 1) acc _ _ _ (by omega) (by omega) f)
            | (rw [fbl_s, cif_t (bt_ne.mp h33), cif_f h52, cif_t h60]; exact ih (k + 1) _ _ _ _ (by omega) (by omega) hf2)
            | (rw [fbl_s, cif_t (bt_ne.mp h33), cif_f h52, cif_f h60]; exact ih (k + 1) acc _ _ _ (by omega) (by omega) hf2)
      · refine o_iconst (n := 56) rfl rfl ?_
        refine o_iret rfl rfl ?_
        refine ⟨?_, hf2⟩
        rw [fbl_s, cif_t (bt_ne.mp h33), cif_t h52]
theorem c7_falling (hS : am_St r) (hR : am_Rg r) (h6 : R6 r) {e : Int} (he : 0 ≤ e) (he1 : e < 10) (hb : Br ρ n E) (hV : Vr7 g e ρ n E) (hu : Bu R L W) (hU : Vu7 g r R L W) (st : Int) (hm : 0 ≤ m) (hm1 : m ≤ 4) (hg : g 7 0 9 = m) : Ou 102 0 (am_ini 102 [vR 7 0, vR 0 e, vI st]) [] g r (fun v g1 r1 => v = some (vI (FB ρ n E m R L W st)) ∧ FJ g r g1 r1) := by
  show Ou 102 0 [vR 7 0, vR 0 e, vI st, vN, vN, vN] [] g r _
  have hu1 := hu.1
  refine o_aload_n (n := 1) rfl rfl rfl ?_
  refine o_aload_n (n := 2) rfl rfl rfl ?_
  refine o_geti (n := 5) rfl rfl rfl rfl rfl ?_
  rw [hg]
  refine o_invi (n := 8) rfl rfl rfl rfl rfl rfl rfl rfl rfl (ok_0 (by omega) (by omega)) (c0_isSound hS he he1 hm hm1 hb hV) ?_
  refine o_ifb_ne (n := 11) (t := 13) rfl rfl rfl (fun h8 => ?_) (fun h8 => ?_)
  · refine o_iconst (n := 14) rfl rfl ?_
    refine o_istore_3 (n := 15) rfl rfl rfl ?_
    refine o_iconst (n := 16) rfl rfl ?_
    refine o_istore_4 (n := 18) rfl rfl rfl ?_
    unfold FB
    rw [cif_t h8]
    exact l7_falling hS hR h6 he he1 hb hV hu hU st R.toNat 0 0 _ g r (by omega) (by omega) (FJ_refl h6)
  · refine o_iconst (n := 12) rfl rfl ?_
    refine o_iret rfl rfl ?_
    first | (exfalso; omega; done) | exact ⟨by unfold FB; rw [cif_f h8], FJ_refl h6⟩
theorem l7_weak (hS : am_St r) (hR : am_Rg r) (h6 : R6 r) (hb : Br ρ n E) (hV : Vr7 g 0 ρ n E) (hu : Bu R L W) (hU : Vu7 g r R L W) : ∀ (j : Nat) (k x : Int) (g1 r1 : GI), (0 ≤ k) → (k + j = R) → (0 ≤ x) → (x ≤ k) → (FJ g r g1 r1) → Ou 100 4 [vR 7 0, vI x, vI k] [] g1 r1 (fun v g1 r1 => v = some (vI (ctn (fun i => gr ρ n E L W i ≠ 0) j k x)) ∧ FJ g r g1 r1) := by
  intro j
  induction j with
  | zero =>
    intro k x g1 r1 i0 i1 i2 i3 f
    have hS0 := hS
    have hR0 := hR
    have hS : am_St r1 := St_F hS0 f.2.1
    have hR : am_Rg r1 := Rg_F hR0 f.2.1 f.2.2
    have hV1 : Vr7 g1 0 ρ n E := Vr7_k (f.1 0 (by decide) (by decide)) (f.1 9 (by decide) (by decide)) hV
    have hU1 := Vu7_J f hU
    have eR := hU1.1
    have hu1 := hu.1
    refine o_iload_n (n := 5) rfl rfl rfl ?_
    refine o_aload_n (n := 6) rfl rfl rfl ?_
    refine o_geti (n := 9) rfl rfl rfl rfl rfl ?_
    refine o_icmp_ge (n := 12) (t := 38) rfl rfl rfl (fun h9 => ?_) (fun h9 => (by exfalso; omega))
    refine o_iload_n (n := 39) rfl rfl rfl ?_
    refine o_iret rfl rfl ?_
    first | (exfalso; omega; done) | exact ⟨rfl, f⟩
  | succ j ih =>
    intro k x g1 r1 i0 i1 i2 i3 f
    have hS0 := hS
    have hR0 := hR
    have hS : am_St r1 := St_F hS0 f.2.1
    have hR : am_Rg r1 := Rg_F hR0 f.2.1 f.2.2
    have hV1 : Vr7 g1 0 ρ n E := Vr7_k (f.1 0 (by decide) (by decide)) (f.1 9 (by decide) (by decide)) hV
    have hU1 := Vu7_J f hU
    have eR := hU1.1
    have hu1 := hu.1
    refine o_iload_n (n := 5) rfl rfl rfl ?_
    refine o_aload_n (n := 6) rfl rfl rfl ?_
    refine o_geti (n := 9) rfl rfl rfl rfl rfl ?_
    refine o_icmp_ge (n := 12) (t := 38) rfl rfl rfl (fun h9 => (by exfalso; omega)) (fun h9 => ?_)
    refine o_aload_n (n := 13) rfl rfl rfl ?_
    refine o_aload_n (n := 14) rfl rfl rfl ?_
    refine of_7_2 (n := 17) hS rfl rfl ?_
    refine o_iload_n (n := 18) rfl rfl rfl ?_
    refine o_ra14 (n := 19) hR rfl rfl (by omega) (by omega) (fun hA18 hB18 => ?_)
    refine o_aload_n (n := 20) rfl rfl rfl ?_
    refine of_7_5 (n := 23) hS rfl rfl ?_
    have hk := hU1.2 k i0 (by omega)
    have hku := hu.2 k i0 (by omega)
    obtain ⟨v2, g2, r2, hc, hv2, f2⟩ := rt_ex (c7_judge hS hR f.2.2 (by omega) (by omega) hA18 hB18 hb hV1 hku.1.1 hku.2.1 hku.1.2 hku.2.2 hk.1 hk.2)
    subst hv2
    have hf2 := FJ_tr f f2
    have hgr : grd ρ n E (W k 0) (L k 0) (W k 1) (L k 1) = gr ρ n E L W k := rfl
    rw [hgr] at hc
    refine o_invi (n := 26) rfl rfl rfl rfl rfl rfl rfl rfl rfl rfl (hc) ?_
    refine o_if_eq (n := 29) (t := 32) rfl rfl rfl (fun h26 => ?_) (fun h26 => ?_)
    · refine o_iinc_2 (n := 35) rfl rfl rfl (by omega) ?_
      refine o_goto (t := 4) rfl rfl ?_
      rw [ctn_s]
      first
        | (rw [bi_t (p := gr ρ n E L W k ≠ 0) h26]; exact ih (k + 1) (x + 1) _ _ (by omega) (by omega) (by omega) (by omega) hf2)
        | (rw [bi_f (p := gr ρ n E L W k ≠ 0) (fun z => z h26), Int.add_zero]; exact ih (k + 1) x _ _ (by omega) (by omega) (by omega) (by omega) hf2)
    · refine o_iinc_1 (n := 32) rfl rfl rfl (by omega) ?_
      refine o_iinc_2 (n := 35) rfl rfl rfl (by omega) ?_
      refine o_goto (t := 4) rfl rfl ?_
      rw [ctn_s]
      first
        | (rw [bi_t (p := gr ρ n E L W k ≠ 0) h26]; exact ih (k + 1) (x + 1) _ _ (by omega) (by omega) (by omega) (by omega) hf2)
        | (rw [bi_f (p := gr ρ n E L W k ≠ 0) (fun z => z h26), Int.add_zero]; exact ih (k + 1) x _ _ (by omega) (by omega) (by omega) (by omega) hf2)
theorem c7_weak (hS : am_St r) (hR : am_Rg r) (h6 : R6 r) (hb : Br ρ n E) (hV : Vr7 g 0 ρ n E) (hu : Bu R L W) (hU : Vu7 g r R L W) : Ou 100 0 (am_ini 100 [vR 7 0]) [] g r (fun v g1 r1 => v = some (vI (ctn (fun i => gr ρ n E L W i ≠ 0) R.toNat 0 0)) ∧ FJ g r g1 r1) := by
  show Ou 100 0 [vR 7 0, vN, vN] [] g r _
  have hu1 := hu.1
  refine o_iconst (n := 1) rfl rfl ?_
  refine o_istore_1 (n := 2) rfl rfl rfl ?_
  refine o_iconst (n := 3) rfl rfl ?_
  refine o_istore_2 (n := 4) rfl rfl rfl ?_
  exact l7_weak hS hR h6 hb hV hu hU R.toNat 0 0 g r (by omega) (by omega) (by omega) (by omega) (FJ_refl h6)
theorem l8_falling (hS : am_St r) {d : Int} (hd : 0 ≤ d) (hd1 : d < 9) (hb : Br ρ n E) (hV : Vr8 g d ρ n E) (hu : Bu R L W) (hU : Vu8 g R L W) (st : Int) : ∀ (j : Nat) (k acc : Int) (t : AV) (g1 : GI), (0 ≤ k) → (k + j = R) → (inI acc) → (F8 g g1) → Ou 141 19 [vR 8 0, vI d, vI st, vI acc, vI k, t] [] g1 r (fun v g1 r1 => v = some (vI (fbl (gr ρ n E L W) st j k acc)) ∧ r1 = r ∧ F8 g g1) := by
  intro j
  induction j with
  | zero =>
    intro k acc t g1 i0 i1 i2 f
    have hV1 := Vr8_8 f hV
    have hU1 := Vu8_F f hU
    have eR := hU1.1
    have hu1 := hu.1
    refine o_iload (n := 21) rfl rfl rfl ?_
    refine o_aload_n (n := 22) rfl rfl rfl ?_
    refine o_geti (n := 25) rfl rfl rfl rfl rfl ?_
    refine o_icmp_ge (n := 28) (t := 76) rfl rfl rfl (fun h25 => ?_) (fun h25 => (by exfalso; omega))
    refine o_iload_n (n := 77) rfl rfl rfl ?_
    refine o_iret rfl rfl ?_
    first | (exfalso; omega; done) | exact ⟨rfl, rfl, f⟩
  | succ j ih =>
    intro k acc t g1 i0 i1 i2 f
    have hV1 := Vr8_8 f hV
    have hU1 := Vu8_F f hU
    have eR := hU1.1
    have hu1 := hu.1
    refine o_iload (n := 21) rfl rfl rfl ?_
    refine o_aload_n (n := 22) rfl rfl rfl ?_
    refine o_geti (n := 25) rfl rfl rfl rfl rfl ?_
    refine o_icmp_ge (n := 28) (t := 76) rfl rfl rfl (fun h25 => (by exfalso; omega)) (fun h25 => ?_)
    refine o_iload_n (n := 29) rfl rfl rfl ?_
    refine o_iload (n := 31) rfl rfl rfl ?_
    refine o_invsi (n := 34) rfl rfl rfl rfl rfl rfl (c8_isIn _ _) ?_
    refine o_ifb_eq (n := 37) (t := 70) rfl rfl rfl (fun h34 => ?_) (fun h34 => ?_)
    · refine o_iinc_4 (n := 73) rfl rfl rfl (by omega) ?_
      refine o_goto (t := 19) rfl rfl ?_
      first
        | (rw [fbl_s, cif_f h34]; exact ih (k + 1) acc _ _ (by omega) (by omega) i2 f)
        | (rw [fbl_s, cif_t h34, cif_f h48, cif_t h57]; exact ih (k + 1) _ _ _ (by omega) (by omega) (inI_or _ _) hf2)
        | (rw [fbl_s, cif_t h34, cif_f h48, cif_f h57, or_0 i2]; exact ih (k + 1) acc _ _ (by omega) (by omega) i2 hf2)
    · refine o_aload_n (n := 38) rfl rfl rfl ?_
      refine o_iload_n (n := 39) rfl rfl rfl ?_
      refine o_iload (n := 41) rfl rfl rfl ?_
      obtain ⟨v2, g2, r2, hc, hv2, hr2, f2⟩ := rt_ex (c8_grade hS hd hd1 hb hV1 hu hU1 i0 (show k < R by omega))
      subst hv2
      subst hr2
      have hf2 := F8_tr f f2
      refine o_invi (n := 44) rfl rfl rfl rfl rfl rfl rfl rfl rfl rfl (hc) ?_
      refine o_istore_5 (n := 46) rfl rfl rfl ?_
      refine o_iload (n := 48) rfl rfl rfl ?_
      refine o_if_ne (n := 51) (t := 53) rfl rfl rfl (fun h48 => ?_) (fun h48 => ?_)
      · refine o_iload_n (n := 54) rfl rfl rfl ?_
        refine o_iload (n := 56) rfl rfl rfl ?_
        refine o_iconst (n := 57) rfl rfl ?_
        refine o_icmp_ne (n := 60) (t := 67) rfl rfl rfl (fun h57 => ?_) (fun h57 => ?_)
        · refine o_iconst (n := 68) rfl rfl ?_
          refine o_ior (n := 69) rfl rfl ?_
          refine o_istore_3 (n := 70) rfl rfl rfl ?_
          refine o_iinc_4 (n := 73) rfl rfl rfl (by omega) ?_
          refine o_goto (t := 19) rfl rfl ?_
          first
            | (rw [fbl_s, cif_f h34]; exact ih (k + 1) acc _ _ (by omega) (by omega) i2 f)
            | (rw [fbl_s, cif_t h34, cif_f h48, cif_t h57]; exact ih (k + 1) _ _ _ (by omega) (by omega) (inI_or _ _) hf2)
            | (rw [fbl_s, cif_t h34, cif_f h48, cif_f h57, or_0 i2]; exact ih (k + 1) acc _ _ (by omega) (by omega) i2 hf2)
        · refine o_iconst (n := 61) rfl rfl ?_
          refine o_iload (n := 63) rfl rfl rfl ?_
          refine o_ishl (n := 64) rfl rfl ?_
          refine o_goto (t := 68) rfl rfl ?_
          refine o_ior (n := 69) rfl rfl ?_
          refine o_istore_3 (n := 70) rfl rfl rfl ?_
          refine o_iinc_4 (n := 73) rfl rfl rfl (by omega) ?_
          refine o_goto (t := 19) rfl rfl ?_
          first
            | (rw [fbl_s, cif_f h34]; exact ih (k + 1) acc _ _ (by omega) (by omega) i2 f)
            | (rw [fbl_s, cif_t h34, cif_f h48, cif_t h57]; exact ih (k + 1) _ _ _ (by omega) (by omega) (inI_or _ _) hf2)
            | (rw [fbl_s, cif_t h34, cif_f h48, cif_f h57, or_0 i2]; exact ih (k + 1) acc _ _ (by omega) (by omega) i2 hf2)
      · refine o_iconst (n := 52) rfl rfl ?_
        refine o_iret rfl rfl ?_
        refine ⟨?_, rfl, hf2⟩
        rw [fbl_s, cif_t h34, cif_t h48]
theorem c8_falling (hS : am_St r) {d : Int} (hd : 0 ≤ d) (hd1 : d < 9) (hb : Br ρ n E) (hV : Vr8 g d ρ n E) (hu : Bu R L W) (hU : Vu8 g R L W) (st : Int) (hm : 0 ≤ m) (hm1 : m ≤ 4) (hg : g 8 0 5 = m) : Ou 141 0 (am_ini 141 [vR 8 0, vI d, vI st]) [] g r (fun v g1 r1 => v = some (vI (FB ρ n E m R L W st)) ∧ r1 = r ∧ F8 g g1) := by
  show Ou 141 0 [vR 8 0, vI d, vI st, vN, vN, vN] [] g r _
  have hu1 := hu.1
  refine o_iload_n (n := 1) rfl rfl rfl ?_
  refine o_if_eq (n := 4) (t := 12) rfl rfl rfl (fun h1 => ?_) (fun h1 => ?_)
  · refine o_iconst (n := 13) rfl rfl ?_
    refine o_iret rfl rfl ?_
    refine ⟨?_, rfl, F8_refl g⟩
    unfold FB
    first
      | (have hz : st = 0 := by omega
         subst hz
         rw [fbl_0]
         by_cases c : sd ρ n E m
         · rw [cif_t c]
         · rw [cif_f c])
      | rw [cif_f h9]
  · refine o_aload_n (n := 5) rfl rfl rfl ?_
    refine o_iload_n (n := 6) rfl rfl rfl ?_
    refine o_invi (n := 9) rfl rfl rfl rfl rfl rfl rfl rfl rfl rfl (c8_isSound hS hd hd1 hm hm1 hg hb hV) ?_
    refine o_ifb_ne (n := 12) (t := 14) rfl rfl rfl (fun h9 => ?_) (fun h9 => ?_)
    · refine o_iconst (n := 15) rfl rfl ?_
      refine o_istore_3 (n := 16) rfl rfl rfl ?_
      refine o_iconst (n := 17) rfl rfl ?_
      refine o_istore_4 (n := 19) rfl rfl rfl ?_
      unfold FB
      rw [cif_t h9]
      exact l8_falling hS hd hd1 hb hV hu hU st R.toNat 0 0 _ g (by omega) (by omega) (by omega) (F8_refl g)
    · refine o_iconst (n := 13) rfl rfl ?_
      refine o_iret rfl rfl ?_
      refine ⟨?_, rfl, F8_refl g⟩
      unfold FB
      first
        | (have hz : st = 0 := by omega
           subst hz
           rw [fbl_0]
           by_cases c : sd ρ n E m
           · rw [cif_t c]
           · rw [cif_f c])
        | rw [cif_f h9]
theorem l8_weak (hS : am_St r) (hb : Br ρ n E) (hV : Vr8 g 8 ρ n E) (hu : Bu R L W) (hU : Vu8 g R L W) : ∀ (j : Nat) (k x : Int) (g1 : GI), (0 ≤ k) → (k + j = R) → (0 ≤ x) → (x ≤ k) → (F8 g g1) → Ou 187 4 [vR 8 0, vI x, vI k] [] g1 r (fun v g1 r1 => v = some (vI (ctn (fun i => gr ρ n E L W i ≠ 0) j k x)) ∧ r1 = r ∧ F8 g g1) := by
  intro j
  induction j with
  | zero =>
    intro k x g1 i0 i1 i2 i3 f
    have hV1 := Vr8_8 f hV
    have hU1 := Vu8_F f hU
    have eR := hU1.1
    have hu1 := hu.1
    refine o_iload_n (n := 5) rfl rfl rfl ?_
    refine o_aload_n (n := 6) rfl rfl rfl ?_
    refine o_geti (n := 9) rfl rfl rfl rfl rfl ?_
    refine o_icmp_ge (n := 12) (t := 36) rfl rfl rfl (fun h9 => ?_) (fun h9 => (by exfalso; omega))
    refine o_iload_n (n := 37) rfl rfl rfl ?_
    refine o_iret rfl rfl ?_
    first | (exfalso; omega; done) | exact ⟨rfl, rfl, f⟩
  | succ j ih =>
    intro k x g1 i0 i1 i2 i3 f
    have hV1 := Vr8_8 f hV
    have hU1 := Vu8_F f hU
    have eR := hU1.1
    have hu1 := hu.1
    have hgr := gr_r (ρ := ρ) (n := n) (E := E) (L := L) (W := W) (i := k)
    refine o_iload_n (n := 5) rfl rfl rfl ?_
    refine o_aload_n (n := 6) rfl rfl rfl ?_
    refine o_geti (n := 9) rfl rfl rfl rfl rfl ?_
    refine o_icmp_ge (n := 12) (t := 36) rfl rfl rfl (fun h9 => (by exfalso; omega)) (fun h9 => ?_)
    refine o_iload_n (n := 13) rfl rfl rfl ?_
    refine o_aload_n (n := 14) rfl rfl rfl ?_
    refine o_bipush (n := 16) rfl rfl ?_
    refine o_iload_n (n := 17) rfl rfl rfl ?_
    obtain ⟨v2, g2, r2, hc, hv2, hr2, f2⟩ := rt_ex (c8_grade hS (by omega) (by omega) hb hV1 hu hU1 i0 (show k < R by omega))
    subst hv2
    subst hr2
    have hf2 := F8_tr f f2
    refine o_invi (n := 20) rfl rfl rfl rfl rfl rfl rfl rfl rfl rfl (hc) ?_
    refine o_if_le (n := 23) (t := 27) rfl rfl rfl (fun h20 => ?_) (fun h20 => ?_)
    · refine o_iconst (n := 28) rfl rfl ?_
      refine o_iadd (n := 29) rfl rfl (by omega) ?_
      refine o_istore_1 (n := 30) rfl rfl rfl ?_
      refine o_iinc_2 (n := 33) rfl rfl rfl (by omega) ?_
      refine o_goto (t := 4) rfl rfl ?_
      rw [ctn_s]
      first
        | (rw [bi_t (p := gr ρ n E L W k ≠ 0) (by omega)]; exact ih (k + 1) (x + 1) _ (by omega) (by omega) (by omega) (by omega) hf2)
        | (rw [bi_f (p := gr ρ n E L W k ≠ 0) (by omega)]; exact ih (k + 1) (x + 0) _ (by omega) (by omega) (by omega) (by omega) hf2)
    · refine o_iconst (n := 24) rfl rfl ?_
      refine o_goto (t := 28) rfl rfl ?_
      refine o_iadd (n := 29) rfl rfl (by omega) ?_
      refine o_istore_1 (n := 30) rfl rfl rfl ?_
      refine o_iinc_2 (n := 33) rfl rfl rfl (by omega) ?_
      refine o_goto (t := 4) rfl rfl ?_
      rw [ctn_s]
      first
        | (rw [bi_t (p := gr ρ n E L W k ≠ 0) (by omega)]; exact ih (k + 1) (x + 1) _ (by omega) (by omega) (by omega) (by omega) hf2)
        | (rw [bi_f (p := gr ρ n E L W k ≠ 0) (by omega)]; exact ih (k + 1) (x + 0) _ (by omega) (by omega) (by omega) (by omega) hf2)
theorem c8_weak (hS : am_St r) (hb : Br ρ n E) (hV : Vr8 g 8 ρ n E) (hu : Bu R L W) (hU : Vu8 g R L W) : Ou 187 0 (am_ini 187 [vR 8 0]) [] g r (fun v g1 r1 => v = some (vI (ctn (fun i => gr ρ n E L W i ≠ 0) R.toNat 0 0)) ∧ r1 = r ∧ F8 g g1) := by
  show Ou 187 0 [vR 8 0, vN, vN] [] g r _
  have hu1 := hu.1
  refine o_iconst (n := 1) rfl rfl ?_
  refine o_istore_1 (n := 2) rfl rfl rfl ?_
  refine o_iconst (n := 3) rfl rfl ?_
  refine o_istore_2 (n := 4) rfl rfl rfl ?_
  exact l8_weak hS hb hV hu hU R.toNat 0 0 g (by omega) (by omega) (by omega) (by omega) (F8_refl g)
end FALL2
