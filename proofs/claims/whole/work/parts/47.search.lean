/-! search. Written by wip/gen/gen47.py -/
noncomputable def tno (h : GI) (b : Int) : Int := tr b (h 8 0 5 * h 28 0 8 * h 28 0 8).toNat 1
noncomputable def Eto (h : GI) (b t s x y : Int) : Int := Et (h 27 0 8) (h 28 0 8) (h 8 0 5) b (E8 h 8) t s x y
noncomputable def FBt (h : GI) (b t : Int) : Int := FB (h 27 0 8) (h 28 0 8) (Eto h b t) (h 8 0 5) (h 8 0 8) (L8 h) (W8 h) (st8 h (h 8 0 19))
noncomputable def sef (h : GI) (b : Int) : Int := fi (tno h b).toNat 0 (fun t => FBt h b t ≠ 0) (-1)
noncomputable def Etf (h : GI) (b t : Int) : GI := fun k i s => cif (k = 26 ∧ i = 0 ∧ 288 ≤ s ∧ s < 324) (Eto h b t ((s - 288) / 9) ((s - 288) % 9 / 3) ((s - 288) % 3)) (h k i s)
noncomputable def Sef (h : GI) (b : Int) : GI := cif (sef h b = -1) h (Etf h b (sef h b))
theorem Etf_k {h : GI} {b t : Int} {k : Nat} (e : k ≠ 26) : Etf h b t k = h k := by
  funext i s
  exact cif_f (fun z => e z.1)
theorem Etf_o {h : GI} {b t s : Int} (e : s < 288) : Etf h b t 26 0 s = h 26 0 s := cif_f (fun z => by omega)
theorem Etf_i {h : GI} {b t a x y : Int} (a0 : 0 ≤ a) (a1 : a < 4) (b0 : 0 ≤ x) (b1 : x < 3) (c0 : 0 ≤ y) (c1 : y < 3) : Etf h b t 26 0 (288 + 9 * a + 3 * x + y) = Eto h b t a x y := by
  unfold Etf
  rw [cif_t ⟨rfl, rfl, by omega, by omega⟩, show (288 + 9 * a + 3 * x + y - 288) / 9 = a by omega, show (288 + 9 * a + 3 * x + y - 288) % 9 / 3 = x by omega, show (288 + 9 * a + 3 * x + y - 288) % 3 = y by omega]
theorem Eto_c {h h1 : GI} {b t : Int} (a : Ag h h1) : Eto h1 b t = Eto h b t := by
  funext s x y
  unfold Eto
  rw [a.1 8 (by omega) (by decide), a.1 27 (by omega) (by decide), a.1 28 (by omega) (by decide), E8_c (by omega) (fun s _ _ => a.2 s (by omega))]
theorem FBt_c {h h1 : GI} {b t : Int} (a : Ag h h1) : FBt h1 b t = FBt h b t := by
  unfold FBt
  rw [Eto_c a, st8_m (a.1 8 (by omega) (by decide)) (a.1 29 (by omega) (by decide)), a.1 8 (by omega) (by decide), a.1 27 (by omega) (by decide), a.1 28 (by omega) (by decide), L8_c (by rw [a.1 23 (by omega) (by decide)]), W8_c (by rw [a.1 22 (by omega) (by decide)])]
theorem tno_c {h h1 : GI} {b : Int} (a : Ag h h1) : tno h1 b = tno h b := by
  unfold tno
  rw [a.1 8 (by omega) (by decide), a.1 28 (by omega) (by decide)]
theorem sef_c {h h1 : GI} {b : Int} (a : Ag h h1) : sef h1 b = sef h b := by
  unfold sef
  rw [tno_c a]
  exact fi_congr (fun j _ _ => by rw [FBt_c a])
theorem Etf_c {h h1 : GI} {b t : Int} (a : Ag h h1) : Ag (Etf h b t) (Etf h1 b t) := by
  refine ⟨fun k hk k26 => by rw [Etf_k k26, Etf_k k26]; exact a.1 k hk k26, fun s hs => ?_⟩
  unfold Etf
  rw [Eto_c a, a.2 s hs]
theorem Sef_c {h h1 : GI} {b : Int} (a : Ag h h1) : Ag (Sef h b) (Sef h1 b) := by
  unfold Sef
  rw [sef_c a]
  by_cases e : sef h b = -1
  · rw [cif_t e, cif_t e]; exact a
  · rw [cif_f e, cif_f e]; exact Etf_c a
section SEARCH
variable {c : Int} {g h r g0 r0 : GI} {b : Int}
/-- the trial's own object is not bound -/
theorem Iv_T1 {G : GI} (a : ∀ k, k ≠ 0 → k ≠ 9 → G k = g k) (d : ∀ k i s, i ≠ 1 → G k i s = g k i s) (hI : Iv c g h r) : Iv c G h r := by
  obtain ⟨i1, i2, i3, i4, i5, i6, i7, i8, i9⟩ := hI
  exact ⟨i1, Isg_c (g := g) (h := h) (by rw [a 7 (by decide) (by decide)]) rfl i2, Itx_c (g := g) (h := h) (by rw [a 5 (by decide) (by decide)]) rfl (by rw [a 12 (by decide) (by decide)]) rfl i3,
    Iru_c (g := g) (h := h) (r := r) (by omega) i1.2.1 (fun _ _ _ => by rw [a 1 (by decide) (by decide)]) (fun _ _ _ => by rw [a 10 (by decide) (by decide)]) (a 2 (by decide) (by decide)) (by rw [a 7 (by decide) (by decide)]) rfl rfl rfl rfl rfl rfl i4,
    Iwd_c (g := g) (h := h) (by omega) (by rw [a 1 (by decide) (by decide)]) (by rw [a 10 (by decide) (by decide)]) (by rw [a 7 (by decide) (by decide)]) rfl rfl rfl i5,
    Inw_c (g := g) (h := h) (by funext s; exact d 0 0 s (by decide)) (by funext s; exact d 9 0 s (by decide)) rfl rfl (fun _ _ _ => rfl) i6,
    Ist_c (g := g) (h := h) (r := r) i1.2.1 (by rw [a 7 (by decide) (by decide)]) (a 4 (by decide) (by decide)) (fun q s z => d 0 q s (by omega)) (fun q s z => d 9 q s (by omega)) rfl rfl rfl rfl (fun _ _ => rfl) (fun _ _ => rfl) (fun _ _ => rfl) rfl rfl rfl i7,
    Ish_c (g := g) (h := h) (a 3 (by decide) (by decide)) (a 11 (by decide) (by decide)) rfl rfl rfl i8, Ila_c (g := g) (h := h) (by rw [a 7 (by decide) (by decide)]) rfl i9⟩
theorem Iv_U1 {G : GI} (u : U1 1 g G) (hI : Iv c g h r) : Iv c G h r := Iv_T1 (fun k _ e => u.1 k e) (fun k i s hi => by
  by_cases e : k = 9
  · rw [e]; exact u.2 i s hi
  · rw [u.1 k e]) hI
theorem Iv_t10 (hI : Iv c g h r) : Iv c (tkf g 1 0) h r := Iv_T1 (fun k e e' => tkf_k e e') (fun k i s hi => tkf_o hi) hI
theorem Fm_U1 {G : GI} (u : U1 1 g G) : Fm g G := fun k hk => u.1 k (by unfold isM at hk; omega)
theorem Fm_tk {d e : Int} : Fm g (tkf g d e) := fun k hk => tkf_k (by unfold isM at hk; omega) (by unfold isM at hk; omega)
/-- the trial becomes the reading -/
theorem Iv_t01 {t : Int} (hb0 : 1 ≤ b) (hb1 : b ≤ 9) (hI : Iv c g h r) (hV : Vr7 g 1 (h 27 0 8) (h 28 0 8) (Eto h b t)) : Iv c (tkf g 0 1) (Etf h b t) r := by
  obtain ⟨i1, i2, i3, i4, i5, i6, i7, i8, i9⟩ := hI
  have G : ∀ k, k ≠ 0 → k ≠ 9 → tkf g 0 1 k = g k := fun k e e' => tkf_k e e'
  have H : ∀ k, k ≠ 26 → Etf h b t k = h k := fun k e => Etf_k e
  have T := tkf_V (d := 0) (e := 1) (by decide) hV
  have B : Br (h 27 0 8) (h 28 0 8) (Eto h b t) := Et_b hb0 hb1 i6.2
  have e8 : ∀ s x y, 0 ≤ s → s < 4 → 0 ≤ x → x < 3 → 0 ≤ y → y < 3 → E8 (Etf h b t) 8 s x y = Eto h b t s x y := fun s x y a0 a1 b0 b1 c0 c1 => by
    rw [E8_i a0 a1 b0 b1 c0 c1, show 36 * 8 + 9 * s + 3 * x + y = 288 + 9 * s + 3 * x + y by omega, Etf_i a0 a1 b0 b1 c0 c1]
  refine ⟨i1, Isg_c (g := g) (h := h) (by rw [G 7 (by decide) (by decide)]) (by rw [H 8 (by decide)]) i2, Itx_c (g := g) (h := h) (by rw [G 5 (by decide) (by decide)]) (by rw [H 8 (by decide)]) (by rw [G 12 (by decide) (by decide)]) (by rw [H 21 (by decide)]) i3,
    Iru_c (g := g) (h := h) (r := r) (by omega) i1.2.1 (fun _ _ _ => by rw [G 1 (by decide) (by decide)]) (fun _ _ _ => by rw [G 10 (by decide) (by decide)]) (G 2 (by decide) (by decide)) (by rw [G 7 (by decide) (by decide)]) (by rw [H 8 (by decide)]) (by rw [H 22 (by decide)]) (by rw [H 23 (by decide)]) (by rw [H 24 (by decide)]) (by rw [H 8 (by decide)]) rfl i4,
    Iwd_c (g := g) (h := h) (by omega) (by rw [G 1 (by decide) (by decide)]) (by rw [G 10 (by decide) (by decide)]) (by rw [G 7 (by decide) (by decide)]) (by rw [H 8 (by decide)]) (by rw [H 25 (by decide)]) (by rw [H 8 (by decide)]) i5,
    ?_,
    Ist_c (g := g) (h := h) (r := r) i1.2.1 (by rw [G 7 (by decide) (by decide)]) (G 4 (by decide) (by decide)) (fun q s z => tkf_o (by omega)) (fun q s z => tkf_o (by omega)) (by rw [H 8 (by decide)]) (by rw [H 8 (by decide)]) (by rw [H 8 (by decide)]) (by rw [H 29 (by decide)]) (fun k _ => by rw [H 27 (by decide)]) (fun k _ => by rw [H 28 (by decide)]) (fun s hs => Etf_o hs) (by rw [H 22 (by decide)]) (by rw [H 23 (by decide)]) rfl i7,
    Ish_c (g := g) (h := h) (G 3 (by decide) (by decide)) (G 11 (by decide) (by decide)) (by rw [H 17 (by decide)]) (by rw [H 18 (by decide)]) (by rw [H 19 (by decide)]) i8, Ila_c (g := g) (h := h) (by rw [G 7 (by decide) (by decide)]) (by rw [H 8 (by decide)]) i9⟩
  unfold Inw
  rw [H 27 (by decide), H 28 (by decide)]
  refine ⟨⟨T.1, T.2.1, fun s x y a0 a1 b0 b1 c0 c1 => ?_⟩, B.1, B.2.1, fun s x y a0 a1 b0 b1 c0 c1 => ?_⟩
  · rw [e8 s x y a0 a1 b0 b1 c0 c1]; exact T.2.2 s x y a0 a1 b0 b1 c0 c1
  · rw [e8 s x y a0 a1 b0 b1 c0 c1]; exact B.2.2 s x y a0 a1 b0 b1 c0 c1
theorem fi_none {P : Int → Prop} {d : Int} : ∀ {n : Nat} {k : Int}, (∀ j, ¬ P j) → fi n k P d = d
  | 0, _, _ => rfl
  | n + 1, k, h => by rw [fi_f (h k)]; exact fi_none h
theorem FBt_0 {t : Int} (e : st8 h (h 8 0 19) = 0) : FBt h b t = 0 := by
  unfold FBt FB
  rw [e, fbl_0]
  unfold cif
  split <;> rfl
noncomputable def Sft (h : GI) (b t : Int) : GI := cif (t = -1) h (Etf h b t)
theorem l7_tell (hb0 : 1 ≤ b) (hb1 : b ≤ 9) {T : Int} (hT : T ≤ 8192) : ∀ (m : Nat) (t : Int) (g1 r1 : GI), (0 ≤ t) → (t + m = T) → (Fm g g1) → (Iv c g1 h r1) → (Vr7 g1 1 (h 27 0 8) (h 28 0 8) (Eto h b t)) → Ou 105 36 [vR 7 0, vI b, vI T, vI (st8 h (h 8 0 19)), vI t] [] g1 r1 (fun x g2 r2 => x = some (vI (fi m t (fun t => FBt h b t ≠ 0) (-1))) ∧ Fm g g2 ∧ Iv c g2 (Sft h b (fi m t (fun t => FBt h b t ≠ 0) (-1))) r2) := by
  intro m
  induction m with
  | zero =>
    intro t g1 r1 i0 i1 fm hI hV
    obtain ⟨⟨hS, hR, h6, hP⟩, hsg, htx, hru, hwd, hnw, hst, hsh, hla⟩ := id hI
    have m1 := hsg.1
    have m2 := hsg.2.1
    have m3 := hsg.2.2
    have eb : Br (h 27 0 8) (h 28 0 8) (Eto h b t) := Et_b hb0 hb1 hnw.2
    refine o_iload (n := 38) rfl rfl rfl ?_
    refine o_iload_n (n := 39) rfl rfl rfl ?_
    refine o_icmp_ge (n := 42) (t := 86) rfl rfl rfl (fun q39 => ?_) (fun q39 => (by exfalso; omega))
    refine o_iconst (n := 87) rfl rfl ?_
    refine o_iret rfl rfl ?_
    refine ⟨rfl, fm, ?_⟩
    exact (show Iv c g1 (Sft h b (-1)) r1 by unfold Sft; rw [cif_t rfl]; exact hI)
  | succ m ih =>
    intro t g1 r1 i0 i1 fm hI hV
    obtain ⟨⟨hS, hR, h6, hP⟩, hsg, htx, hru, hwd, hnw, hst, hsh, hla⟩ := id hI
    have m1 := hsg.1
    have m2 := hsg.2.1
    have m3 := hsg.2.2
    have eb : Br (h 27 0 8) (h 28 0 8) (Eto h b t) := Et_b hb0 hb1 hnw.2
    refine o_iload (n := 38) rfl rfl rfl ?_
    refine o_iload_n (n := 39) rfl rfl rfl ?_
    refine o_icmp_ge (n := 42) (t := 86) rfl rfl rfl (fun q39 => (by exfalso; omega)) (fun q39 => ?_)
    refine o_aload_n (n := 43) rfl rfl rfl ?_
    refine o_aload_n (n := 44) rfl rfl rfl ?_
    refine of_7_6 (n := 47) hS rfl rfl ?_
    refine o_iload_n (n := 48) rfl rfl rfl ?_
    obtain ⟨g2, r2, hc, f2⟩ := c7_fallG hI (e := 1) (st := st8 h (h 8 0 19)) (by omega) (by omega) eb hV
    have hc : Rt 102 [vR 7 0, vR 0 1, vI (st8 h (h 8 0 19))] g1 r1 (some (vI (FBt h b t))) g2 r2 := hc
    have hI2 := Iv_GJ f2 hI
    have hS := hI2.1.1
    have hV2 : Vr7 g2 1 (h 27 0 8) (h 28 0 8) (Eto h b t) := Vr7_k (f2.1 0 (by decide) (by decide)) (f2.1 9 (by decide) (by decide)) hV
    have e79 : g2 7 0 9 = h 8 0 5 := by rw [f2.1 7 (by decide) (by decide)]; exact m3.symm
    refine o_invi (n := 51) rfl rfl rfl rfl rfl rfl rfl rfl rfl rfl (hc) ?_
    refine o_if_eq (n := 54) (t := 68) rfl rfl rfl (fun q51 => ?_) (fun q51 => ?_)
    · refine o_aload_n (n := 69) rfl rfl rfl ?_
      refine of_7_6 (n := 72) hS rfl rfl ?_
      refine o_aload_n (n := 73) rfl rfl rfl ?_
      refine o_geti (n := 76) rfl rfl rfl rfl rfl ?_
      refine o_iload_n (n := 77) rfl rfl rfl ?_
      rw [e79]
      obtain ⟨v3, g3, r3, hc3, e1, e2, u3, V3⟩ := rt_ex (c0_nextTry (e := 1) (m := h 8 0 5) (b := b) (t := t) (E := E8 h 8) hS (by omega) (by omega) (by omega) (by omega) hnw.2 hb0 hb1 hV2)
      subst e1
      subst e2
      refine o_invv (n := 80) rfl rfl rfl rfl rfl rfl rfl rfl rfl (ok_0 (by omega) (by omega)) (hc3) ?_
      refine o_iinc_4 (n := 83) rfl rfl rfl (by omega) ?_
      refine o_goto (t := 36) rfl rfl ?_
      have hz : FBt h b t = 0 := by omega
      rw [fi_f (p := fun t => FBt h b t ≠ 0) (fun z => z hz)]
      exact ih (t + 1) _ _ (by omega) (by omega) (Fm_tr (Fm_tr fm (Fm_J f2)) (Fm_U1 u3)) (Iv_U1 u3 hI2) V3
    · refine o_aload_n (n := 55) rfl rfl rfl ?_
      refine of_7_5 (n := 58) hS rfl rfl ?_
      refine o_aload_n (n := 59) rfl rfl rfl ?_
      refine of_7_6 (n := 62) hS rfl rfl ?_
      refine o_invv (n := 65) rfl rfl rfl rfl rfl rfl rfl rfl rfl (ok_0 (by omega) (by omega)) (c0_takeFrom hS _ _ (by omega) (by omega) (by omega) (by omega)) ?_
      refine o_iload (n := 67) rfl rfl rfl ?_
      refine o_iret rfl rfl ?_
      have hz : FBt h b t ≠ 0 := by omega
      rw [fi_t (p := fun t => FBt h b t ≠ 0) hz]
      refine ⟨rfl, Fm_tr (Fm_tr fm (Fm_J f2)) Fm_tk, ?_⟩
      unfold Sft
      rw [cif_f (by omega)]
      exact Iv_t01 hb0 hb1 hI2 hV2
theorem c7_tell (hI : Iv c g h r) (hb0 : 1 ≤ b) (hb1 : b ≤ 9) (hT : tno h b ≤ 8192) (hT0 : 0 ≤ tno h b) : Ou 105 0 (am_ini 105 [vR 7 0, vI b, vI (tno h b)]) [] g r (fun x g2 r2 => x = some (vI (sef h b)) ∧ Fm g g2 ∧ Iv c g2 (Sft h b (sef h b)) r2) := by
  show Ou 105 0 [vR 7 0, vI b, vI (tno h b), vN, vN] [] g r _
  obtain ⟨⟨hS, hR, h6, hP⟩, hsg, htx, hru, hwd, hnw, hst, hsh, hla⟩ := id hI
  obtain ⟨sg1, sg2, sg3⟩ := hI.2.1
  obtain ⟨tx1, tx2, tx3, tx4⟩ := hI.2.2.1
  have ru0 : g 7 0 10 = h 8 0 8 := hI.2.2.2.1.1.1
  have ru1 := hI.2.2.2.1.2.1.1
  have wd0 : g 1 0 1 = h 8 0 14 := hI.2.2.2.2.1.1.1
  have wd1 := hI.2.2.2.2.1.2.1.1
  have wd2 := hI.2.2.2.2.1.2.2
  have nw0 : g 0 0 0 = h 27 0 8 := hI.2.2.2.2.2.1.1.1
  have nw1 : g 0 0 1 = h 28 0 8 := hI.2.2.2.2.2.1.1.2.1
  have nw2 := hI.2.2.2.2.2.1.2.1
  have nw3 := hI.2.2.2.2.2.1.2.2.1
  have st0 := hI.2.2.2.2.2.2.1.1
  have st1 := hI.2.2.2.2.2.2.1.2.1
  have st2 := hI.2.2.2.2.2.2.1.2.2.1
  have la0 : g 7 0 13 = h 8 0 4 := hI.2.2.2.2.2.2.2.2
  refine o_aload_n (n := 1) rfl rfl rfl ?_
  refine o_invi (n := 4) rfl rfl rfl rfl rfl rfl rfl rfl rfl rfl (c7_standingBits hS hR (by omega) (by omega) (by omega) (by omega)) ?_
  rw [st78 hst ru0 (by omega), st0]
  refine o_istore_3 (n := 5) rfl rfl rfl ?_
  refine o_iload_n (n := 6) rfl rfl rfl ?_
  refine o_if_ne (n := 9) (t := 11) rfl rfl rfl (fun q6 => ?_) (fun q6 => ?_)
  · refine o_aload_n (n := 12) rfl rfl rfl ?_
    refine of_7_6 (n := 15) hS rfl rfl ?_
    refine o_aload_n (n := 16) rfl rfl rfl ?_
    refine of_7_5 (n := 19) hS rfl rfl ?_
    refine o_invv (n := 22) rfl rfl rfl rfl rfl rfl rfl rfl rfl (ok_0 (by omega) (by omega)) (c0_takeFrom hS _ _ (by omega) (by omega) (by omega) (by omega)) ?_
    show Ou _ _ _ _ (tkf g 1 0) _ _
    refine o_aload_n (n := 23) rfl rfl rfl ?_
    refine of_7_6 (n := 26) hS rfl rfl ?_
    refine o_aload_n (n := 27) rfl rfl rfl ?_
    refine o_geti (n := 30) rfl rfl rfl rfl rfl ?_
    rw [tkf_k (by decide) (by decide), ← sg3]
    have hVt : Vr7 (tkf g 1 0) 1 (h 27 0 8) (h 28 0 8) (E8 h 8) := tkf_V (by decide) hnw.1
    obtain ⟨v3, g3, r3, hc3, e1, e2, u3, V3⟩ := rt_ex (c0_startTries (e := 1) (m := h 8 0 5) (b := b) (g := tkf g 1 0) (E := E8 h 8) hS (by omega) (by omega) (by omega) (by omega) hnw.2 hVt)
    subst e1
    subst e2
    refine o_invv (n := 33) rfl rfl rfl rfl rfl rfl rfl rfl rfl (ok_0 (by omega) (by omega)) (hc3) ?_
    refine o_iconst (n := 34) rfl rfl ?_
    refine o_istore_4 (n := 36) rfl rfl rfl ?_
    exact l7_tell hb0 hb1 hT (tno h b).toNat 0 _ _ (by omega) (by omega) (Fm_tr Fm_tk (Fm_U1 u3)) (Iv_U1 u3 (Iv_t10 hI)) V3
  · refine o_iconst (n := 10) rfl rfl ?_
    refine o_iret rfl rfl ?_
    have hz : st8 h (h 8 0 19) = 0 := by omega
    have e : sef h b = -1 := fi_none (fun j w => w (FBt_0 hz))
    rw [e]
    refine ⟨rfl, Fm_refl g, ?_⟩
    unfold Sft
    rw [cif_t rfl]
    exact hI
end SEARCH
