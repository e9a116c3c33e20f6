/-! step and run. Written by wip/gen/gen57.py -/
section RUN
variable {c : Int} {g h r g0 r0 : GI}
theorem plc_c {h1 : GI} {i : Int} (A : Ag h h1) : plc h1 i = plc h i := by
  unfold plc
  rw [A.1 8 (by omega) (by decide)]
  refine fi_congr (fun j _ _ => ?_)
  unfold at8
  rw [A.1 8 (by omega) (by decide), A.1 22 (by omega) (by decide), A.1 23 (by omega) (by decide), A.1 25 (by omega) (by decide)]
theorem sti_c {h1 : GI} (A : Ag h h1) : sti h1 = sti h := by
  unfold sti
  rw [A.1 8 (by omega) (by decide)]
  exact fi_congr (fun j _ _ => by rw [plc_c A])
theorem stV_c {h1 : GI} (A : Ag h h1) : stV h1 = stV h := by
  unfold stV stX llr lrr
  rw [sti_c A, A.1 8 (by omega) (by decide), A.1 23 (by omega) (by decide)]
theorem sti_p : sti h = -1 ∨ (0 ≤ sti h ∧ plc h (sti h) ≠ -1) := by
  rcases fi_range (d := -1) (p := fun i => plc h i ≠ -1) (n := (h 8 0 8).toNat) (k := 0) with w | ⟨w1, _, w2, _⟩
  · exact Or.inl w
  · exact Or.inr ⟨w1, w2⟩
theorem plc_0 {i : Int} (e : plc h i ≠ -1) : 0 ≤ plc h i := by
  rcases fi_range (d := -1) (p := at8 h i) (n := (h 8 0 14).toNat) (k := 0) with w | ⟨w1, _, w2, _⟩
  · exact absurd w e
  · exact w1
theorem StF_c {h1 : GI} (A : Ag h h1) : Ag (StF h) (StF h1) := by
  have e8 := A.1 8 (by omega) (by decide)
  have e23 := A.1 23 (by omega) (by decide)
  unfold StF SfX
  rw [sti_c A, plc_c A]
  have el : lrr h1 (sti h) - llr h1 (sti h) = lrr h (sti h) - llr h (sti h) := by unfold lrr llr; rw [e23]
  rw [el, e8]
  by_cases e : sti h = -1
  · rw [cif_t e, cif_t e]; exact A
  · rw [cif_f e, cif_f e]
    by_cases e2 : h 8 0 14 + (lrr h (sti h) - llr h (sti h)) ≤ 24
    · rw [cif_t e2, cif_t e2]
      rcases sti_p (h := h) with w | w
      · exact absurd w e
      · exact PuF_c (plc_0 w.2) A
    · rw [cif_f e2, cif_f e2]; exact A
theorem StF_M {k : Nat} (hk : ¬ isM k) : StF h k = h k := by
  unfold StF SfX
  by_cases e : sti h = -1
  · rw [cif_t e]
  · rw [cif_f e]
    by_cases e2 : h 8 0 14 + (lrr h (sti h) - llr h (sti h)) ≤ 24
    · rw [cif_t e2]; exact PuF_M hk
    · rw [cif_f e2]
theorem stV_r : stV h < 0 → StF h = h := by
  intro w
  unfold stV stX at w
  unfold StF SfX
  by_cases e : sti h = -1
  · rw [cif_t e]
  · rw [cif_f e] at w ⊢
    by_cases e2 : h 8 0 14 + (lrr h (sti h) - llr h (sti h)) ≤ 24
    · rw [cif_t e2] at w
      rcases sti_p (h := h) with v | v
      · exact absurd v e
      · omega
    · rw [cif_f e2]
theorem Us_c {h1 : GI} {B : Int} (A : Ag h h1) (u : Us h B) : Us h1 B := by
  unfold Us
  rw [A.1 8 (by omega) (by decide), A.1 24 (by omega) (by decide)]
  exact u
theorem Us_I (hI : Iv c g h r) : Us h (40 * c) := ⟨fun i a b => (hI.2.2.2.1.2.2 i a b).2.1.2, hI.2.2.2.2.1.2.2.2.2⟩
theorem p_step : Pr 69 179 [] := pr_H2 (fun h => vI (stV h)) StF (fun c g h r c0 c1 hI => by
  obtain ⟨n, v, g1, r1, e1, e2, e3, e4, e5⟩ := c7_stepX (Iv_1 hI) (by omega) (Us_I hI) (by omega)
  exact ⟨n, v, g1, r1, e1, e2, e3, e4⟩) (fun c g0 g r0 r c0 c1 hI hS => by
  obtain ⟨n, v, g1, r1, e1, e2, e3, e4⟩ := c8_stepX (Iv_1 hI) hS (by omega) (Us_I hI) (by omega)
  subst e4
  exact ⟨n, v, _, r1, e1, e2, e3, Ag_refl _, fun k hk => StF_M hk⟩) (fun c g h h1 r hI A => ⟨by show vI (stV h1) = vI (stV h); rw [stV_c A], StF_c A⟩)
noncomputable def ruc : Nat → GI → Int → Int
  | 0, _, k => k
  | n + 1, h, k => cif (stV h < 0) k (ruc n (StF h) (k + 1))
noncomputable def ruh : Nat → GI → GI
  | 0, h => h
  | n + 1, h => cif (stV h < 0) h (ruh n (StF h))
theorem ruc_c : ∀ {n : Nat} {h h1 : GI} {k : Int}, Ag h h1 → ruc n h1 k = ruc n h k
  | 0, _, _, _, _ => rfl
  | n + 1, h, h1, k, a => by
    unfold ruc
    rw [stV_c a]
    by_cases e : stV h < 0
    · rw [cif_t e, cif_t e]
    · rw [cif_f e, cif_f e]; exact ruc_c (StF_c a)
theorem ruh_c : ∀ {n : Nat} {h h1 : GI}, Ag h h1 → Ag (ruh n h) (ruh n h1)
  | 0, _, _, a => a
  | n + 1, h, h1, a => by
    unfold ruh
    rw [stV_c a]
    by_cases e : stV h < 0
    · rw [cif_t e, cif_t e]; exact a
    · rw [cif_f e, cif_f e]; exact ruh_c (StF_c a)
theorem ruh_M {k : Nat} (hk : ¬ isM k) : ∀ {n : Nat} {h : GI}, ruh n h k = h k
  | 0, _ => rfl
  | n + 1, h => by
    unfold ruh
    by_cases e : stV h < 0
    · rw [cif_t e]
    · rw [cif_f e, ruh_M hk, StF_M hk]
noncomputable def ruV (h : GI) (n : Int) : Int := cif (0 ≤ n ∧ n ≤ 40) (ruc n.toNat h 0) (-2)
noncomputable def RuH (h : GI) (n : Int) : GI := cif (0 ≤ n ∧ n ≤ 40) (ruh n.toNat h) h
theorem l7_run {n : Int} (c1 : c ≤ 3072) (n1 : n ≤ 40) : ∀ (m : Nat) (k : Int) (g1 h1 r1 : GI), (0 ≤ k) → (k + m = n) → (Fm g g1) → (Iv (c + 1) g1 h1 r1) → (Us h1 (40 * c + k)) → Ou 70 15 [vR 7 0, vI n, vI k] [] g1 r1 (fun x g2 r2 => x = some (vI (ruc m h1 k)) ∧ Fm g g2 ∧ Iv (c + 1) g2 (ruh m h1) r2) := by
  intro m
  induction m with
  | zero =>
    intro k g1 h1 r1 i0 i1 fm hI u
    refine o_iload_n (n := 16) rfl rfl rfl ?_
    refine o_iload_n (n := 17) rfl rfl rfl ?_
    refine o_icmp_ge (n := 20) (t := 35) rfl rfl rfl (fun q17 => ?_) (fun q17 => (by exfalso; omega))
    refine o_iload_n (n := 36) rfl rfl rfl ?_
    refine o_iret rfl rfl ?_
    have hk : n = k := by omega
    subst hk
    exact ⟨rfl, fm, hI⟩
  | succ m ih =>
    intro k g1 h1 r1 i0 i1 fm hI u
    refine o_iload_n (n := 16) rfl rfl rfl ?_
    refine o_iload_n (n := 17) rfl rfl rfl ?_
    refine o_icmp_ge (n := 20) (t := 35) rfl rfl rfl (fun q17 => (by exfalso; omega)) (fun q17 => ?_)
    refine o_aload_n (n := 21) rfl rfl rfl ?_
    obtain ⟨v2, g2, r2, hc2, e1, f2, hI2, u2⟩ := rt_ex (c7_stepX hI (by omega) u (by omega))
    subst e1
    refine o_invi (n := 24) rfl rfl rfl rfl rfl rfl rfl rfl rfl rfl (hc2) ?_
    refine o_if_ge (n := 27) (t := 29) rfl rfl rfl (fun q24 => ?_) (fun q24 => ?_)
    · refine o_iinc_2 (n := 32) rfl rfl rfl (by omega) ?_
      refine o_goto (t := 15) rfl rfl ?_
      have hz : ¬ stV h1 < 0 := by omega
      have a1 : ruc (m + 1) h1 k = ruc m (StF h1) (k + 1) := cif_f hz
      have a2 : ruh (m + 1) h1 = ruh m (StF h1) := cif_f hz
      rw [a1, a2]
      exact ih (k + 1) _ _ _ (by omega) (by omega) (Fm_tr fm f2) hI2 (by rw [← Int.add_assoc]; exact u2)
    · refine o_iload_n (n := 28) rfl rfl rfl ?_
      refine o_iret rfl rfl ?_
      have hz : stV h1 < 0 := by omega
      rw [stV_r hz] at hI2
      refine ⟨?_, Fm_tr fm f2, ?_⟩
      · unfold ruc; rw [cif_t hz]
      · unfold ruh; rw [cif_t hz]; exact hI2
theorem c7_run (n : Int) (hI : Iv c g h r) (c1 : c ≤ 3072) : Ou 70 0 (am_ini 70 [vR 7 0, vI n]) [] g r (fun x g1 r1 => x = some (vI (ruV h n)) ∧ Fm g g1 ∧ Iv (c + 1) g1 (RuH h n) r1) := by
  show Ou 70 0 [vR 7 0, vI n, vN] [] g r _
  refine o_iload_n (n := 1) rfl rfl rfl ?_
  refine o_if_lt (n := 4) (t := 10) rfl rfl rfl (fun q1 => ?_) (fun q1 => ?_)
  · refine o_bipush (n := 12) rfl rfl ?_
    refine o_iret rfl rfl ?_
    refine ⟨?_, Fm_refl g, ?_⟩
    · unfold ruV; rw [cif_f (by omega)]
    · unfold RuH; rw [cif_f (by omega)]; exact Iv_1 hI
  · refine o_iload_n (n := 5) rfl rfl rfl ?_
    refine o_bipush (n := 7) rfl rfl ?_
    refine o_icmp_le (n := 10) (t := 13) rfl rfl rfl (fun q7 => ?_) (fun q7 => ?_)
    · refine o_iconst (n := 14) rfl rfl ?_
      refine o_istore_2 (n := 15) rfl rfl rfl ?_
      obtain ⟨n9, v9, g9, r9, w1, w2, w3, w4⟩ := l7_run (c := c) (g := g) (n := n) c1 (by omega) n.toNat 0 g h r (by omega) (by omega) (Fm_refl g) (Iv_1 hI) (by rw [Int.add_zero]; exact Us_I hI)
      refine ⟨n9, v9, g9, r9, w1, ?_, w3, ?_⟩
      · unfold ruV; rw [cif_t (by omega)]; exact w2
      · unfold RuH; rw [cif_t (by omega)]; exact w4
    · refine o_bipush (n := 12) rfl rfl ?_
      refine o_iret rfl rfl ?_
      refine ⟨?_, Fm_refl g, ?_⟩
      · unfold ruV; rw [cif_f (by omega)]
      · unfold RuH; rw [cif_f (by omega)]; exact Iv_1 hI
theorem l8_runZ {g1 : GI} {n k : Int} (j : Int) : Ou 180 22 [vR 8 0, vI n, vI k, vI 0, vI j] [] g1 r (fun x g2 r2 => x = some (vI (k)) ∧ r2 = r ∧ g2 = g1) := by
  refine o_iload (n := 24) rfl rfl rfl ?_
  refine o_iload_n (n := 25) rfl rfl rfl ?_
  refine o_icmp_ge (n := 28) (t := 63) rfl rfl rfl (fun q25 => ?_) (fun q25 => ?_)
  · refine o_iload_n (n := 64) rfl rfl rfl ?_
    refine o_iret rfl rfl ?_
    first | (exfalso; omega; done) | exact ⟨rfl, rfl, rfl⟩
  · refine o_iload_n (n := 29) rfl rfl rfl ?_
    refine o_if_eq (n := 32) (t := 63) rfl rfl rfl (fun q29 => ?_) (fun q29 => (by exfalso; omega))
    refine o_iload_n (n := 64) rfl rfl rfl ?_
    refine o_iret rfl rfl ?_
    first | (exfalso; omega; done) | exact ⟨rfl, rfl, rfl⟩
theorem l8_run {n : Int} (hS : am_St r) (c1 : c ≤ 3072) (n1 : n ≤ 40) : ∀ (m : Nat) (k : Int) (g1 : GI), (0 ≤ k) → (k + m = n) → (∃ g0 r0, Iv (c + 1) g0 g1 r0) → (Us g1 (40 * c + k)) → Ou 180 22 [vR 8 0, vI n, vI k, vI 1, vI k] [] g1 r (fun x g2 r2 => x = some (vI (ruc m g1 k)) ∧ r2 = r ∧ g2 = ruh m g1) := by
  intro m
  induction m with
  | zero =>
    intro k g1 i0 i1 iE u
    obtain ⟨g0, r0, hI⟩ := iE
    refine o_iload (n := 24) rfl rfl rfl ?_
    refine o_iload_n (n := 25) rfl rfl rfl ?_
    refine o_icmp_ge (n := 28) (t := 63) rfl rfl rfl (fun q25 => ?_) (fun q25 => (by exfalso; omega))
    refine o_iload_n (n := 64) rfl rfl rfl ?_
    refine o_iret rfl rfl ?_
    first | (exfalso; omega; done) | exact ⟨rfl, rfl, rfl⟩
  | succ m ih =>
    intro k g1 i0 i1 iE u
    obtain ⟨g0, r0, hI⟩ := iE
    refine o_iload (n := 24) rfl rfl rfl ?_
    refine o_iload_n (n := 25) rfl rfl rfl ?_
    refine o_icmp_ge (n := 28) (t := 63) rfl rfl rfl (fun q25 => (by exfalso; omega)) (fun q25 => ?_)
    refine o_iload_n (n := 29) rfl rfl rfl ?_
    refine o_if_eq (n := 32) (t := 63) rfl rfl rfl (fun q29 => (by exfalso; omega)) (fun q29 => ?_)
    refine o_aload_n (n := 33) rfl rfl rfl ?_
    obtain ⟨v3, g3, r3, hc3, e1, e2, e3⟩ := rt_ex (c8_stepNow hI hS (by omega) u (by omega))
    subst e1
    subst e2
    subst e3
    obtain ⟨_, ga, ra, _, _, _, hIa, ua⟩ := rt_ex (c7_stepX hI (by omega) u (by omega))
    refine o_invi (n := 36) rfl rfl rfl rfl rfl rfl rfl rfl rfl rfl (hc3) ?_
    refine o_if_lt (n := 39) (t := 43) rfl rfl rfl (fun q36 => ?_) (fun q36 => ?_)
    · refine o_iconst (n := 44) rfl rfl ?_
      refine o_istore_3 (n := 45) rfl rfl rfl ?_
      refine o_iload_n (n := 46) rfl rfl rfl ?_
      refine o_iload_n (n := 47) rfl rfl rfl ?_
      refine o_if_eq (n := 50) (t := 54) rfl rfl rfl (fun q47 => ?_) (fun q47 => ?_)
      · refine o_iconst (n := 55) rfl rfl ?_
        refine o_iadd (n := 56) rfl rfl (by omega) ?_
        refine o_istore_2 (n := 57) rfl rfl rfl ?_
        refine o_iinc_4 (n := 60) rfl rfl rfl (by omega) ?_
        refine o_goto (t := 22) rfl rfl ?_
        first
          | (exfalso; omega; done)
          | (have hz : stV g1 < 0 := by omega
             have a1 : ruc (m + 1) g1 k = k := cif_t hz
             have a2 : ruh (m + 1) g1 = g1 := cif_t hz
             rw [a1, a2, stV_r hz, show k + 0 = k by omega]
             exact l8_runZ (k + 1))
          | (have hz : ¬ stV g1 < 0 := by omega
             have a1 : ruc (m + 1) g1 k = ruc m (StF g1) (k + 1) := cif_f hz
             have a2 : ruh (m + 1) g1 = ruh m (StF g1) := cif_f hz
             rw [a1, a2]
             exact ih (k + 1) _ (by omega) (by omega) ⟨ga, ra, hIa⟩ (by rw [← Int.add_assoc]; exact ua))
      · refine o_iconst (n := 51) rfl rfl ?_
        refine o_goto (t := 55) rfl rfl ?_
        refine o_iadd (n := 56) rfl rfl (by omega) ?_
        refine o_istore_2 (n := 57) rfl rfl rfl ?_
        refine o_iinc_4 (n := 60) rfl rfl rfl (by omega) ?_
        refine o_goto (t := 22) rfl rfl ?_
        first
          | (exfalso; omega; done)
          | (have hz : stV g1 < 0 := by omega
             have a1 : ruc (m + 1) g1 k = k := cif_t hz
             have a2 : ruh (m + 1) g1 = g1 := cif_t hz
             rw [a1, a2, stV_r hz, show k + 0 = k by omega]
             exact l8_runZ (k + 1))
          | (have hz : ¬ stV g1 < 0 := by omega
             have a1 : ruc (m + 1) g1 k = ruc m (StF g1) (k + 1) := cif_f hz
             have a2 : ruh (m + 1) g1 = ruh m (StF g1) := cif_f hz
             rw [a1, a2]
             exact ih (k + 1) _ (by omega) (by omega) ⟨ga, ra, hIa⟩ (by rw [← Int.add_assoc]; exact ua))
    · refine o_iconst (n := 40) rfl rfl ?_
      refine o_goto (t := 44) rfl rfl ?_
      refine o_istore_3 (n := 45) rfl rfl rfl ?_
      refine o_iload_n (n := 46) rfl rfl rfl ?_
      refine o_iload_n (n := 47) rfl rfl rfl ?_
      refine o_if_eq (n := 50) (t := 54) rfl rfl rfl (fun q47 => ?_) (fun q47 => ?_)
      · refine o_iconst (n := 55) rfl rfl ?_
        refine o_iadd (n := 56) rfl rfl (by omega) ?_
        refine o_istore_2 (n := 57) rfl rfl rfl ?_
        refine o_iinc_4 (n := 60) rfl rfl rfl (by omega) ?_
        refine o_goto (t := 22) rfl rfl ?_
        first
          | (exfalso; omega; done)
          | (have hz : stV g1 < 0 := by omega
             have a1 : ruc (m + 1) g1 k = k := cif_t hz
             have a2 : ruh (m + 1) g1 = g1 := cif_t hz
             rw [a1, a2, stV_r hz, show k + 0 = k by omega]
             exact l8_runZ (k + 1))
          | (have hz : ¬ stV g1 < 0 := by omega
             have a1 : ruc (m + 1) g1 k = ruc m (StF g1) (k + 1) := cif_f hz
             have a2 : ruh (m + 1) g1 = ruh m (StF g1) := cif_f hz
             rw [a1, a2]
             exact ih (k + 1) _ (by omega) (by omega) ⟨ga, ra, hIa⟩ (by rw [← Int.add_assoc]; exact ua))
      · refine o_iconst (n := 51) rfl rfl ?_
        refine o_goto (t := 55) rfl rfl ?_
        refine o_iadd (n := 56) rfl rfl (by omega) ?_
        refine o_istore_2 (n := 57) rfl rfl rfl ?_
        refine o_iinc_4 (n := 60) rfl rfl rfl (by omega) ?_
        refine o_goto (t := 22) rfl rfl ?_
        first
          | (exfalso; omega; done)
          | (have hz : stV g1 < 0 := by omega
             have a1 : ruc (m + 1) g1 k = k := cif_t hz
             have a2 : ruh (m + 1) g1 = g1 := cif_t hz
             rw [a1, a2, stV_r hz, show k + 0 = k by omega]
             exact l8_runZ (k + 1))
          | (have hz : ¬ stV g1 < 0 := by omega
             have a1 : ruc (m + 1) g1 k = ruc m (StF g1) (k + 1) := cif_f hz
             have a2 : ruh (m + 1) g1 = ruh m (StF g1) := cif_f hz
             rw [a1, a2]
             exact ih (k + 1) _ (by omega) (by omega) ⟨ga, ra, hIa⟩ (by rw [← Int.add_assoc]; exact ua))
theorem c8_run (n : Int) (hI : Iv c g0 g r0) (hS : am_St r) (c1 : c ≤ 3072) : Ou 180 0 (am_ini 180 [vR 8 0, vI n]) [] g r (fun x g1 r1 => x = some (vI (ruV g n)) ∧ r1 = r ∧ FH (RuH g n) g g1) := by
  show Ou 180 0 [vR 8 0, vI n, vN, vN, vN] [] g r _
  refine o_iload_n (n := 1) rfl rfl rfl ?_
  refine o_i2l (n := 2) rfl rfl ?_
  refine o_lconst (n := 3) rfl rfl ?_
  refine o_ldc2_w (n := 6) rfl rfl ?_
  refine o_invsi (n := 9) rfl rfl rfl rfl rfl rfl (c8_in _ _ _) ?_
  refine o_ifb_ne (n := 12) (t := 15) rfl rfl rfl (fun q9 => ?_) (fun q9 => ?_)
  · refine o_iconst (n := 16) rfl rfl ?_
    refine o_istore_2 (n := 17) rfl rfl rfl ?_
    refine o_iconst (n := 18) rfl rfl ?_
    refine o_istore_3 (n := 19) rfl rfl rfl ?_
    refine o_iconst (n := 20) rfl rfl ?_
    refine o_istore_4 (n := 22) rfl rfl rfl ?_
    obtain ⟨n9, v9, g9, r9, w1, w2, w3, w4⟩ := l8_run (c := c) (n := n) hS c1 (by omega) n.toNat 0 g (by omega) (by omega) ⟨g0, r0, Iv_1 hI⟩ (by rw [Int.add_zero]; exact Us_I hI)
    refine ⟨n9, v9, g9, r9, w1, ?_, w3, ?_⟩
    · unfold ruV; rw [cif_t (by omega)]; exact w2
    · unfold RuH; rw [cif_t (by omega), w4]; exact ⟨Ag_refl _, fun k hk => ruh_M hk⟩
  · refine o_bipush (n := 14) rfl rfl ?_
    refine o_iret rfl rfl ?_
    refine ⟨?_, rfl, ?_⟩
    · unfold ruV; rw [cif_f (by omega)]
    · unfold RuH; rw [cif_f (by omega)]; exact ⟨Ag_refl g, fun _ _ => rfl⟩
theorem p_run (n : Int) : Pr 70 180 [vI n] := pr_H2 (fun h => vI (ruV h n)) (fun h => RuH h n) (fun c g h r c0 c1 hI => c7_run n hI c1) (fun c g0 g r0 r c0 c1 hI hS => c8_run n hI hS c1) (fun c g h h1 r hI A => by
  show vI (ruV h1 n) = vI (ruV h n) ∧ Ag (RuH h n) (RuH h1 n)
  unfold ruV RuH
  by_cases e : 0 ≤ n ∧ n ≤ 40
  · rw [cif_t e, cif_t e, cif_t e, cif_t e, ruc_c A]; exact ⟨rfl, ruh_c A⟩
  · rw [cif_f e, cif_f e, cif_f e, cif_f e]; exact ⟨rfl, A⟩)
end RUN
