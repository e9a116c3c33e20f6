/-! like answers of both: sheet, copy, write. Written by wip/gen/gen30.py -/
theorem Iv_sh {c : Int} {g G r : GI} (f : ∀ k, k ≠ 3 → k ≠ 11 → k ≠ 17 → k ≠ 18 → k ≠ 19 → k ≠ 20 → G k = g k) (s : Ish G G) (i : Iv c g g r) : Iv (c + 1) G G r := by
  obtain ⟨i1, i2, i3, i4, i5, i6, i7, i8, i9⟩ := i
  have F : ∀ k, (k = 0 ∨ k = 1 ∨ k = 2 ∨ k = 4 ∨ k = 5 ∨ k = 7 ∨ k = 8 ∨ k = 9 ∨ k = 10 ∨ k = 12 ∨ (21 ≤ k ∧ k ≤ 29)) → G k = g k := fun k h => f k (by omega) (by omega) (by omega) (by omega) (by omega) (by omega)
  exact ⟨i1, Isg_c (g := g) (h := g) (by rw [F 7 (by omega)]) (by rw [F 8 (by omega)]) i2, Itx_c (g := g) (h := g) (by rw [F 5 (by omega)]) (by rw [F 8 (by omega)]) (by rw [F 12 (by omega)]) (by rw [F 21 (by omega)]) i3,
    Iru_c (g := g) (h := g) (r := r) (by omega) i1.2.1 (fun _ _ _ => by rw [F 1 (by omega)]) (fun _ _ _ => by rw [F 10 (by omega)]) (F 2 (by omega)) (by rw [F 7 (by omega)]) (by rw [F 8 (by omega)]) (by rw [F 22 (by omega)]) (by rw [F 23 (by omega)]) (by rw [F 24 (by omega)]) (by rw [F 8 (by omega)]) rfl i4,
    Iwd_c (g := g) (h := g) (by omega) (by rw [F 1 (by omega)]) (by rw [F 10 (by omega)]) (by rw [F 7 (by omega)]) (by rw [F 8 (by omega)]) (by rw [F 25 (by omega)]) (by rw [F 8 (by omega)]) i5,
    Inw_c (g := g) (h := g) (by rw [F 0 (by omega)]) (by rw [F 9 (by omega)]) (by rw [F 27 (by omega)]) (by rw [F 28 (by omega)]) (fun _ _ _ => by rw [F 26 (by omega)]) i6,
    Ist_c (g := g) (h := g) (r := r) i1.2.1 (by rw [F 7 (by omega)]) (F 4 (by omega)) (fun _ _ _ => by rw [F 0 (by omega)]) (fun _ _ _ => by rw [F 9 (by omega)]) (by rw [F 8 (by omega)]) (by rw [F 8 (by omega)]) (by rw [F 8 (by omega)]) (by rw [F 29 (by omega)]) (fun _ _ => by rw [F 27 (by omega)]) (fun _ _ => by rw [F 28 (by omega)]) (fun _ _ => by rw [F 26 (by omega)]) (by rw [F 22 (by omega)]) (by rw [F 23 (by omega)]) rfl i7,
    s, Ila_c (g := g) (h := g) (by rw [F 7 (by omega)]) (by rw [F 8 (by omega)]) i9⟩
section S2
variable {g h r : GI} {a f n c : Int}
theorem l_fill (a0 : 0 ≤ a) (a1 : a < 4) : ∀ (m : Nat) (k : Int) (g1 : GI), (0 ≤ k) → (k + m = 60) → ((∀ k, k ≠ 11 → g1 k = g k) ∧ (∀ i t, i ≠ a → g1 11 i t = g 11 i t)) → (∀ j, 0 ≤ j → j < k → g1 11 a j = 0) → Ou 193 5 [vR 11 a, vI 0, vI k, vI 60] [] g1 r (fun x g1 r1 => x = none ∧ r1 = r ∧ (∀ k, k ≠ 11 → g1 k = g k) ∧ (∀ i t, i ≠ a → g1 11 i t = g 11 i t) ∧ ∀ j, 0 ≤ j → j < 60 → g1 11 a j = 0) := by
  intro m
  induction m with
  | zero =>
    intro k g1 i0 i1 fr i2
    refine o_iload_n (n := 6) rfl rfl rfl ?_
    refine o_iload_n (n := 7) rfl rfl rfl ?_
    refine o_icmp_ge (n := 10) (t := 20) rfl rfl rfl (fun h7 => ?_) (fun h7 => (by exfalso; omega))
    refine o_vret rfl ?_
    first | (exfalso; omega; done) | exact ⟨rfl, rfl, fr.1, fr.2, fun j a b => i2 j a (by omega)⟩
  | succ m ih =>
    intro k g1 i0 i1 fr i2
    refine o_iload_n (n := 6) rfl rfl rfl ?_
    refine o_iload_n (n := 7) rfl rfl rfl ?_
    refine o_icmp_ge (n := 10) (t := 20) rfl rfl rfl (fun h7 => (by exfalso; omega)) (fun h7 => ?_)
    refine o_aload_n (n := 11) rfl rfl rfl ?_
    refine o_iload_n (n := 12) rfl rfl rfl ?_
    refine o_iload_n (n := 13) rfl rfl rfl ?_
    refine o_iast (n := 14) (L := 60) rfl rfl (ok_11 (by omega) (by omega)) rfl rfl (by omega) (by omega) ?_
    refine o_iinc_2 (n := 17) rfl rfl rfl (by omega) ?_
    refine o_goto (t := 5) rfl rfl ?_
    refine ih (k + 1) _ (by omega) (by omega) ⟨fun q z => (gset_kf z).trans (fr.1 q z), fun i t z => (gset_i z).trans (fr.2 i t z)⟩ (fun j x y => ?_)
    by_cases e : j = k
    · rw [e, gset_at]
    · rw [gset_s e]; exact i2 j x (by omega)
theorem c_fill (a0 : 0 ≤ a) (a1 : a < 4) : Ou 193 0 (am_ini 193 [vR 11 a, vI 0]) [] g r (fun x g1 r1 => x = none ∧ r1 = r ∧ (∀ k, k ≠ 11 → g1 k = g k) ∧ (∀ i t, i ≠ a → g1 11 i t = g 11 i t) ∧ ∀ j, 0 ≤ j → j < 60 → g1 11 a j = 0) := by
  show Ou 193 0 [vR 11 a, vI 0, vN, vN] [] g r _
  refine o_iconst (n := 1) rfl rfl ?_
  refine o_istore_2 (n := 2) rfl rfl rfl ?_
  refine o_aload_n (n := 3) rfl rfl rfl ?_
  refine o_alen (n := 4) (L := 60) rfl rfl (ok_11 (by omega) (by omega)) rfl rfl ?_
  refine o_istore_3 (n := 5) rfl rfl rfl ?_
  exact l_fill a0 a1 60 0 g (by omega) (by omega) ⟨fun _ _ => rfl, fun _ _ _ => rfl⟩ (fun j x y => by omega)
theorem c3_renew (hS : am_St r) (a0 : 0 ≤ a) (a1 : a < 4) : Ou 23 0 (am_ini 23 [vR 3 a, vI f, vI n]) [] g r (fun x g1 r1 => x = none ∧ r1 = r ∧ (∀ k, k ≠ 11 → k ≠ 3 → g1 k = g k) ∧ (∀ i t, i ≠ a → g1 11 i t = g 11 i t ∧ g1 3 i t = g 3 i t) ∧ (g1 3 a 0 = f ∧ g1 3 a 1 = n) ∧ ∀ j, 0 ≤ j → j < 60 → g1 11 a j = 0) := by
  show Ou 23 0 [vR 3 a, vI f, vI n] [] g r _
  refine o_aload_n (n := 1) rfl rfl rfl ?_
  refine o_iload_n (n := 2) rfl rfl rfl ?_
  refine o_puti (n := 5) rfl rfl rfl (ok_3 (by omega) (by omega)) rfl ?_
  refine o_aload_n (n := 6) rfl rfl rfl ?_
  refine o_iload_n (n := 7) rfl rfl rfl ?_
  refine o_puti (n := 10) rfl rfl rfl (ok_3 (by omega) (by omega)) rfl ?_
  refine o_aload_n (n := 11) rfl rfl rfl ?_
  refine of_3_2 (n := 14) hS rfl rfl (by omega) (by omega) ?_
  refine o_iconst (n := 15) rfl rfl ?_
  obtain ⟨v1, g1, r1, hc, hv1, hr1, f1, f2, f3⟩ := rt_ex (c_fill (g := gset (gset g 3 a 0 f) 3 a 1 n) (r := r) a0 a1)
  subst hv1
  subst hr1
  refine o_invsv (n := 18) rfl rfl rfl rfl rfl rfl (hc) ?_
  refine o_vret rfl ?_
  exact ⟨rfl, rfl, fun k x y => (f1 k x).trans ((gset_kf y).trans (gset_kf y)), fun i t x => ⟨(f2 i t x).trans rfl, by rw [f1 3 (by decide), gset_i x, gset_i x]⟩, ⟨by rw [f1 3 (by decide), gset_s (by decide), gset_at], by rw [f1 3 (by decide), gset_at]⟩, f3⟩
theorem l8_zero (hS : am_St r) (a0 : 0 ≤ a) (a1 : a < 4) (n1 : n ≤ 60) : ∀ (m : Nat) (k : Int) (g1 : GI), (0 ≤ k) → (k + m = n) → (∀ k, k ≠ 19 → g1 k = h k) → (∀ t, g1 19 0 t = cif (60 * a ≤ t ∧ t < 60 * a + k) 0 (h 19 0 t)) → Ou 114 55 [vR 8 0, vI a, vI f, vI n, vI k] [] g1 r (fun v g2 r2 => v = some (vI n) ∧ r2 = r ∧ (∀ k, k ≠ 19 → g2 k = h k) ∧ ∀ t, g2 19 0 t = cif (60 * a ≤ t ∧ t < 60 * a + n) 0 (h 19 0 t)) := by
  intro m
  induction m with
  | zero =>
    intro k g1 i0 i1 fr i2
    refine o_iload (n := 57) rfl rfl rfl ?_
    refine o_iload_n (n := 58) rfl rfl rfl ?_
    refine o_icmp_ge (n := 61) (t := 80) rfl rfl rfl (fun h58 => ?_) (fun h58 => (by exfalso; omega))
    refine o_iload_n (n := 81) rfl rfl rfl ?_
    refine o_iret rfl rfl ?_
    have hk : k = n := by omega
    subst hk
    exact ⟨rfl, rfl, fr, i2⟩
  | succ m ih =>
    intro k g1 i0 i1 fr i2
    refine o_iload (n := 57) rfl rfl rfl ?_
    refine o_iload_n (n := 58) rfl rfl rfl ?_
    refine o_icmp_ge (n := 61) (t := 80) rfl rfl rfl (fun h58 => (by exfalso; omega)) (fun h58 => ?_)
    refine o_aload_n (n := 62) rfl rfl rfl ?_
    refine of_8_2 (n := 65) hS rfl rfl ?_
    refine o_bipush (n := 67) rfl rfl ?_
    refine o_iload_n (n := 68) rfl rfl rfl ?_
    refine o_imul (n := 69) rfl rfl (by omega) ?_
    refine o_iload (n := 71) rfl rfl rfl ?_
    refine o_iadd (n := 72) rfl rfl (by omega) ?_
    refine o_iconst (n := 73) rfl rfl ?_
    refine o_iast (n := 74) (L := 240) rfl rfl rfl rfl rfl (by omega) (by omega) ?_
    refine o_iinc_4 (n := 77) rfl rfl rfl (by omega) ?_
    refine o_goto (t := 55) rfl rfl ?_
    refine ih (k + 1) _ (by omega) (by omega) (fun q z => (gset_kf z).trans (fr q z)) (fun t => ?_)
    by_cases e : t = 60 * a + k
    · rw [e, gset_at, cif_t (by omega)]
    · rw [gset_s e, i2 t]; exact cif_congr (by omega)
end S2
theorem p_sheet (a : Int) (f : Int) (n : Int) : Pr 73 114 [vI a, vI f, vI n] := by
  intro c g r hc0 hc1 hI
  have hI' := hI
  obtain ⟨⟨hS, hR, h6, hP⟩, hsg, htx, hru, hwd, hnw, hst, hsh, hla⟩ := hI'
  show Ou 73 0 [vR 7 0, vI a, vI f, vI n] [] g r _
  obtain ⟨sg1, sg2, sg3⟩ := hI.2.1
  obtain ⟨tx1, tx2, tx3, tx4⟩ := hI.2.2.1
  have ru0 : g 7 0 10 = g 8 0 8 := hI.2.2.2.1.1.1
  have ru1 := hI.2.2.2.1.2.1.1
  have wd0 : g 1 0 1 = g 8 0 14 := hI.2.2.2.2.1.1.1
  have wd1 := hI.2.2.2.2.1.2.1.1
  have wd2 := hI.2.2.2.2.1.2.2
  have nw0 : g 0 0 0 = g 27 0 8 := hI.2.2.2.2.2.1.1.1
  have nw1 : g 0 0 1 = g 28 0 8 := hI.2.2.2.2.2.1.1.2.1
  have nw2 := hI.2.2.2.2.2.1.2.1
  have nw3 := hI.2.2.2.2.2.1.2.2.1
  have st0 := hI.2.2.2.2.2.2.1.1
  have st1 := hI.2.2.2.2.2.2.1.2.1
  have st2 := hI.2.2.2.2.2.2.1.2.2.1
  have la0 : g 7 0 13 = g 8 0 4 := hI.2.2.2.2.2.2.2.2
  have sh_a : (0 ≤ a ∧ a < 4) → (g 3 a 0 = g 17 0 a ∧ -1 ≤ g 17 0 a ∧ g 17 0 a ≤ 2 ∧ g 3 a 1 = g 18 0 a ∧ 0 ≤ g 18 0 a ∧ g 18 0 a ≤ 60) := fun z => by
    have := hsh a z.1 z.2
    exact ⟨this.1.1, this.1.2.1, this.1.2.2, this.2.1.1, this.2.1.2.1, this.2.1.2.2⟩
  refine o_iload_n (n := 1) rfl rfl rfl ?_
  refine o_invsi (n := 4) rfl rfl rfl rfl rfl rfl (c7_isSheet _) ?_
  refine o_ifb_eq (n := 7) (t := 20) rfl rfl rfl (fun q4 => ?_) (fun q4 => ?_)
  · refine o_bipush (n := 22) rfl rfl ?_
    refine o_iret rfl rfl ?_
    refine q8_of (g := g) (r := r) (fun k hk => by first | rfl | exact gset_kf (isM_ne hk (by decide)) | exact (gset_kf (isM_ne hk (by decide))).trans (gset_kf (isM_ne hk (by decide))) | exact (gset_kf (isM_ne hk (by decide))).trans ((gset_kf (isM_ne hk (by decide))).trans (gset_kf (isM_ne hk (by decide)))) | exact (gset_kf (isM_ne hk (by decide))).trans ((gset_kf (isM_ne hk (by decide))).trans ((gset_kf (isM_ne hk (by decide))).trans (gset_kf (isM_ne hk (by decide)))))) hI (fun h hh hJ => ?_)
    show Ou 114 0 [vR 8 0, vI a, vI f, vI n, vN] [] h _ _
    obtain ⟨jsg1, jsg2, jsg3⟩ := hJ.2.1
    obtain ⟨jtx1, jtx2, jtx3, jtx4⟩ := hJ.2.2.1
    have jru0 : g 7 0 10 = h 8 0 8 := hJ.2.2.2.1.1.1
    have jru1 := hJ.2.2.2.1.2.1.1
    have jwd0 : g 1 0 1 = h 8 0 14 := hJ.2.2.2.2.1.1.1
    have jwd1 := hJ.2.2.2.2.1.2.1.1
    have jwd2 := hJ.2.2.2.2.1.2.2
    have jnw0 : g 0 0 0 = h 27 0 8 := hJ.2.2.2.2.2.1.1.1
    have jnw1 : g 0 0 1 = h 28 0 8 := hJ.2.2.2.2.2.1.1.2.1
    have jnw2 := hJ.2.2.2.2.2.1.2.1
    have jnw3 := hJ.2.2.2.2.2.1.2.2.1
    have jst0 := hJ.2.2.2.2.2.2.1.1
    have jst1 := hJ.2.2.2.2.2.2.1.2.1
    have jst2 := hJ.2.2.2.2.2.2.1.2.2.1
    have jla0 : g 7 0 13 = h 8 0 4 := hJ.2.2.2.2.2.2.2.2
    have jsh_a : (0 ≤ a ∧ a < 4) → (g 3 a 0 = h 17 0 a ∧ -1 ≤ h 17 0 a ∧ h 17 0 a ≤ 2 ∧ g 3 a 1 = h 18 0 a ∧ 0 ≤ h 18 0 a ∧ h 18 0 a ≤ 60) := fun z => by
      have := hJ.2.2.2.2.2.2.2.1 a z.1 z.2
      exact ⟨this.1.1, this.1.2.1, this.1.2.2, this.2.1.1, this.2.1.2.1, this.2.1.2.2⟩
    refine o_iload_n (n := 1) rfl rfl rfl ?_
    refine o_invsi (n := 4) rfl rfl rfl rfl rfl rfl (c8_isSheet _) ?_
    refine o_ifb_eq (n := 7) (t := 25) rfl rfl rfl (fun k4 => ?_) (fun k4 => ?_)
    · refine o_bipush (n := 27) rfl rfl ?_
      refine o_iret rfl rfl ?_
      first
        | (exfalso; omega; done)
        | (refine ⟨rfl, ?_, ?_, ?_⟩
           · subst hh; exact ⟨⟨hS, hR, h6, hP⟩, Isg_c (g := g) (h := g) rfl rfl hsg, Itx_c (g := g) (h := g) rfl rfl rfl rfl htx, Iru_c (g := g) (h := g) (r := r) (by omega) hR (fun _ _ _ => rfl) (fun _ _ _ => rfl) rfl rfl rfl rfl rfl rfl rfl rfl hru, Iwd_c (g := g) (h := g) (by omega) rfl rfl rfl rfl rfl rfl hwd, Inw_c (g := g) (h := g) rfl rfl rfl rfl (fun _ _ _ => rfl) hnw, Ist_c (g := g) (h := g) (r := r) hR rfl rfl (fun _ _ _ => rfl) (fun _ _ _ => rfl) rfl rfl rfl rfl (fun _ _ => rfl) (fun _ _ => rfl) (fun _ _ => rfl) rfl rfl rfl hst, Ish_c (g := g) (h := g) rfl rfl rfl rfl rfl hsh, Ila_c (g := g) (h := g) rfl rfl hla⟩
           · subst hh; rfl
           · subst hh; rfl)
        | (refine ⟨congrArg (fun z => some (vI z)) ?_, ?_, ?_, ?_⟩
           · omega
           · subst hh; exact ⟨⟨hS, hR, h6, hP⟩, Isg_c (g := g) (h := g) rfl rfl hsg, Itx_c (g := g) (h := g) rfl rfl rfl rfl htx, Iru_c (g := g) (h := g) (r := r) (by omega) hR (fun _ _ _ => rfl) (fun _ _ _ => rfl) rfl rfl rfl rfl rfl rfl rfl rfl hru, Iwd_c (g := g) (h := g) (by omega) rfl rfl rfl rfl rfl rfl hwd, Inw_c (g := g) (h := g) rfl rfl rfl rfl (fun _ _ _ => rfl) hnw, Ist_c (g := g) (h := g) (r := r) hR rfl rfl (fun _ _ _ => rfl) (fun _ _ _ => rfl) rfl rfl rfl rfl (fun _ _ => rfl) (fun _ _ => rfl) (fun _ _ => rfl) rfl rfl rfl hst, Ish_c (g := g) (h := g) rfl rfl rfl rfl rfl hsh, Ila_c (g := g) (h := g) rfl rfl hla⟩
           · subst hh; rfl
           · subst hh; rfl)
    · refine o_iload_n (n := 8) rfl rfl rfl ?_
      refine o_i2l (n := 9) rfl rfl ?_
      refine o_lconst (n := 10) rfl rfl ?_
      refine o_ldc2_w (n := 13) rfl rfl ?_
      refine o_invsi (n := 16) rfl rfl rfl rfl rfl rfl (c8_in _ _ _) ?_
      refine o_ifb_eq (n := 19) (t := 25) rfl rfl rfl (fun k16 => ?_) (fun k16 => ?_)
      · refine o_bipush (n := 27) rfl rfl ?_
        refine o_iret rfl rfl ?_
        first
          | (exfalso; omega; done)
          | (refine ⟨rfl, ?_, ?_, ?_⟩
             · subst hh; exact ⟨⟨hS, hR, h6, hP⟩, Isg_c (g := g) (h := g) rfl rfl hsg, Itx_c (g := g) (h := g) rfl rfl rfl rfl htx, Iru_c (g := g) (h := g) (r := r) (by omega) hR (fun _ _ _ => rfl) (fun _ _ _ => rfl) rfl rfl rfl rfl rfl rfl rfl rfl hru, Iwd_c (g := g) (h := g) (by omega) rfl rfl rfl rfl rfl rfl hwd, Inw_c (g := g) (h := g) rfl rfl rfl rfl (fun _ _ _ => rfl) hnw, Ist_c (g := g) (h := g) (r := r) hR rfl rfl (fun _ _ _ => rfl) (fun _ _ _ => rfl) rfl rfl rfl rfl (fun _ _ => rfl) (fun _ _ => rfl) (fun _ _ => rfl) rfl rfl rfl hst, Ish_c (g := g) (h := g) rfl rfl rfl rfl rfl hsh, Ila_c (g := g) (h := g) rfl rfl hla⟩
             · subst hh; rfl
             · subst hh; rfl)
          | (refine ⟨congrArg (fun z => some (vI z)) ?_, ?_, ?_, ?_⟩
             · omega
             · subst hh; exact ⟨⟨hS, hR, h6, hP⟩, Isg_c (g := g) (h := g) rfl rfl hsg, Itx_c (g := g) (h := g) rfl rfl rfl rfl htx, Iru_c (g := g) (h := g) (r := r) (by omega) hR (fun _ _ _ => rfl) (fun _ _ _ => rfl) rfl rfl rfl rfl rfl rfl rfl rfl hru, Iwd_c (g := g) (h := g) (by omega) rfl rfl rfl rfl rfl rfl hwd, Inw_c (g := g) (h := g) rfl rfl rfl rfl (fun _ _ _ => rfl) hnw, Ist_c (g := g) (h := g) (r := r) hR rfl rfl (fun _ _ _ => rfl) (fun _ _ _ => rfl) rfl rfl rfl rfl (fun _ _ => rfl) (fun _ _ => rfl) (fun _ _ => rfl) rfl rfl rfl hst, Ish_c (g := g) (h := g) rfl rfl rfl rfl rfl hsh, Ila_c (g := g) (h := g) rfl rfl hla⟩
             · subst hh; rfl
             · subst hh; rfl)
      · refine o_iload_n (n := 20) rfl rfl rfl ?_
        refine o_bipush (n := 22) rfl rfl ?_
        refine o_icmp_le (n := 25) (t := 28) rfl rfl rfl (fun k22 => ?_) (fun k22 => ?_)
        · refine o_iload_n (n := 29) rfl rfl rfl ?_
          refine o_if_ge (n := 32) (t := 38) rfl rfl rfl (fun k29 => ?_) (fun k29 => ?_)
          · refine o_aload_n (n := 39) rfl rfl rfl ?_
            refine of_8_0 (n := 42) hS rfl rfl ?_
            refine o_iload_n (n := 43) rfl rfl rfl ?_
            refine o_iload_n (n := 44) rfl rfl rfl ?_
            refine o_iast (n := 45) (L := 4) rfl rfl rfl rfl rfl (by omega) (by omega) ?_
            refine o_aload_n (n := 46) rfl rfl rfl ?_
            refine of_8_1 (n := 49) hS rfl rfl ?_
            refine o_iload_n (n := 50) rfl rfl rfl ?_
            refine o_iload_n (n := 51) rfl rfl rfl ?_
            refine o_iast (n := 52) (L := 4) rfl rfl rfl rfl rfl (by omega) (by omega) ?_
            refine o_iconst (n := 53) rfl rfl ?_
            refine o_istore_4 (n := 55) rfl rfl rfl ?_
            exfalso; omega
          · refine o_aload_n (n := 33) rfl rfl rfl ?_
            refine o_iconst (n := 34) rfl rfl ?_
            refine o_invi (n := 37) rfl rfl rfl rfl rfl rfl rfl rfl rfl rfl (c8_finds _ (by omega) (by omega)) ?_
            refine o_iret rfl rfl ?_
            first
              | (exfalso; omega; done)
              | (refine ⟨rfl, ?_, ?_, ?_⟩
                 · subst hh; exact ⟨⟨hS, hR, h6, hP⟩, Isg_c (g := g) (h := g) rfl rfl hsg, Itx_c (g := g) (h := g) rfl rfl rfl rfl htx, Iru_c (g := g) (h := g) (r := r) (by omega) hR (fun _ _ _ => rfl) (fun _ _ _ => rfl) rfl rfl rfl rfl rfl rfl rfl rfl hru, Iwd_c (g := g) (h := g) (by omega) rfl rfl rfl rfl rfl rfl hwd, Inw_c (g := g) (h := g) rfl rfl rfl rfl (fun _ _ _ => rfl) hnw, Ist_c (g := g) (h := g) (r := r) hR rfl rfl (fun _ _ _ => rfl) (fun _ _ _ => rfl) rfl rfl rfl rfl (fun _ _ => rfl) (fun _ _ => rfl) (fun _ _ => rfl) rfl rfl rfl hst, Ish_c (g := g) (h := g) rfl rfl rfl rfl rfl hsh, rfl⟩
                 · subst hh; rfl
                 · subst hh; rfl)
              | (refine ⟨congrArg (fun z => some (vI z)) ?_, ?_, ?_, ?_⟩
                 · omega
                 · subst hh; exact ⟨⟨hS, hR, h6, hP⟩, Isg_c (g := g) (h := g) rfl rfl hsg, Itx_c (g := g) (h := g) rfl rfl rfl rfl htx, Iru_c (g := g) (h := g) (r := r) (by omega) hR (fun _ _ _ => rfl) (fun _ _ _ => rfl) rfl rfl rfl rfl rfl rfl rfl rfl hru, Iwd_c (g := g) (h := g) (by omega) rfl rfl rfl rfl rfl rfl hwd, Inw_c (g := g) (h := g) rfl rfl rfl rfl (fun _ _ _ => rfl) hnw, Ist_c (g := g) (h := g) (r := r) hR rfl rfl (fun _ _ _ => rfl) (fun _ _ _ => rfl) rfl rfl rfl rfl (fun _ _ => rfl) (fun _ _ => rfl) (fun _ _ => rfl) rfl rfl rfl hst, Ish_c (g := g) (h := g) rfl rfl rfl rfl rfl hsh, rfl⟩
                 · subst hh; rfl
                 · subst hh; rfl)
        · refine o_bipush (n := 27) rfl rfl ?_
          refine o_iret rfl rfl ?_
          first
            | (exfalso; omega; done)
            | (refine ⟨rfl, ?_, ?_, ?_⟩
               · subst hh; exact ⟨⟨hS, hR, h6, hP⟩, Isg_c (g := g) (h := g) rfl rfl hsg, Itx_c (g := g) (h := g) rfl rfl rfl rfl htx, Iru_c (g := g) (h := g) (r := r) (by omega) hR (fun _ _ _ => rfl) (fun _ _ _ => rfl) rfl rfl rfl rfl rfl rfl rfl rfl hru, Iwd_c (g := g) (h := g) (by omega) rfl rfl rfl rfl rfl rfl hwd, Inw_c (g := g) (h := g) rfl rfl rfl rfl (fun _ _ _ => rfl) hnw, Ist_c (g := g) (h := g) (r := r) hR rfl rfl (fun _ _ _ => rfl) (fun _ _ _ => rfl) rfl rfl rfl rfl (fun _ _ => rfl) (fun _ _ => rfl) (fun _ _ => rfl) rfl rfl rfl hst, Ish_c (g := g) (h := g) rfl rfl rfl rfl rfl hsh, Ila_c (g := g) (h := g) rfl rfl hla⟩
               · subst hh; rfl
               · subst hh; rfl)
            | (refine ⟨congrArg (fun z => some (vI z)) ?_, ?_, ?_, ?_⟩
               · omega
               · subst hh; exact ⟨⟨hS, hR, h6, hP⟩, Isg_c (g := g) (h := g) rfl rfl hsg, Itx_c (g := g) (h := g) rfl rfl rfl rfl htx, Iru_c (g := g) (h := g) (r := r) (by omega) hR (fun _ _ _ => rfl) (fun _ _ _ => rfl) rfl rfl rfl rfl rfl rfl rfl rfl hru, Iwd_c (g := g) (h := g) (by omega) rfl rfl rfl rfl rfl rfl hwd, Inw_c (g := g) (h := g) rfl rfl rfl rfl (fun _ _ _ => rfl) hnw, Ist_c (g := g) (h := g) (r := r) hR rfl rfl (fun _ _ _ => rfl) (fun _ _ _ => rfl) rfl rfl rfl rfl (fun _ _ => rfl) (fun _ _ => rfl) (fun _ _ => rfl) rfl rfl rfl hst, Ish_c (g := g) (h := g) rfl rfl rfl rfl rfl hsh, Ila_c (g := g) (h := g) rfl rfl hla⟩
               · subst hh; rfl
               · subst hh; rfl)
  · refine o_iload_n (n := 8) rfl rfl rfl ?_
    refine o_invsi (n := 11) rfl rfl rfl rfl rfl rfl (c7_isForm _) ?_
    refine o_ifb_eq (n := 14) (t := 20) rfl rfl rfl (fun q11 => ?_) (fun q11 => ?_)
    · refine o_bipush (n := 22) rfl rfl ?_
      refine o_iret rfl rfl ?_
      refine q8_of (g := g) (r := r) (fun k hk => by first | rfl | exact gset_kf (isM_ne hk (by decide)) | exact (gset_kf (isM_ne hk (by decide))).trans (gset_kf (isM_ne hk (by decide))) | exact (gset_kf (isM_ne hk (by decide))).trans ((gset_kf (isM_ne hk (by decide))).trans (gset_kf (isM_ne hk (by decide)))) | exact (gset_kf (isM_ne hk (by decide))).trans ((gset_kf (isM_ne hk (by decide))).trans ((gset_kf (isM_ne hk (by decide))).trans (gset_kf (isM_ne hk (by decide)))))) hI (fun h hh hJ => ?_)
      show Ou 114 0 [vR 8 0, vI a, vI f, vI n, vN] [] h _ _
      obtain ⟨jsg1, jsg2, jsg3⟩ := hJ.2.1
      obtain ⟨jtx1, jtx2, jtx3, jtx4⟩ := hJ.2.2.1
      have jru0 : g 7 0 10 = h 8 0 8 := hJ.2.2.2.1.1.1
      have jru1 := hJ.2.2.2.1.2.1.1
      have jwd0 : g 1 0 1 = h 8 0 14 := hJ.2.2.2.2.1.1.1
      have jwd1 := hJ.2.2.2.2.1.2.1.1
      have jwd2 := hJ.2.2.2.2.1.2.2
      have jnw0 : g 0 0 0 = h 27 0 8 := hJ.2.2.2.2.2.1.1.1
      have jnw1 : g 0 0 1 = h 28 0 8 := hJ.2.2.2.2.2.1.1.2.1
      have jnw2 := hJ.2.2.2.2.2.1.2.1
      have jnw3 := hJ.2.2.2.2.2.1.2.2.1
      have jst0 := hJ.2.2.2.2.2.2.1.1
      have jst1 := hJ.2.2.2.2.2.2.1.2.1
      have jst2 := hJ.2.2.2.2.2.2.1.2.2.1
      have jla0 : g 7 0 13 = h 8 0 4 := hJ.2.2.2.2.2.2.2.2
      have jsh_a : (0 ≤ a ∧ a < 4) → (g 3 a 0 = h 17 0 a ∧ -1 ≤ h 17 0 a ∧ h 17 0 a ≤ 2 ∧ g 3 a 1 = h 18 0 a ∧ 0 ≤ h 18 0 a ∧ h 18 0 a ≤ 60) := fun z => by
        have := hJ.2.2.2.2.2.2.2.1 a z.1 z.2
        exact ⟨this.1.1, this.1.2.1, this.1.2.2, this.2.1.1, this.2.1.2.1, this.2.1.2.2⟩
      refine o_iload_n (n := 1) rfl rfl rfl ?_
      refine o_invsi (n := 4) rfl rfl rfl rfl rfl rfl (c8_isSheet _) ?_
      refine o_ifb_eq (n := 7) (t := 25) rfl rfl rfl (fun k4 => ?_) (fun k4 => ?_)
      · refine o_bipush (n := 27) rfl rfl ?_
        refine o_iret rfl rfl ?_
        first
          | (exfalso; omega; done)
          | (refine ⟨rfl, ?_, ?_, ?_⟩
             · subst hh; exact ⟨⟨hS, hR, h6, hP⟩, Isg_c (g := g) (h := g) rfl rfl hsg, Itx_c (g := g) (h := g) rfl rfl rfl rfl htx, Iru_c (g := g) (h := g) (r := r) (by omega) hR (fun _ _ _ => rfl) (fun _ _ _ => rfl) rfl rfl rfl rfl rfl rfl rfl rfl hru, Iwd_c (g := g) (h := g) (by omega) rfl rfl rfl rfl rfl rfl hwd, Inw_c (g := g) (h := g) rfl rfl rfl rfl (fun _ _ _ => rfl) hnw, Ist_c (g := g) (h := g) (r := r) hR rfl rfl (fun _ _ _ => rfl) (fun _ _ _ => rfl) rfl rfl rfl rfl (fun _ _ => rfl) (fun _ _ => rfl) (fun _ _ => rfl) rfl rfl rfl hst, Ish_c (g := g) (h := g) rfl rfl rfl rfl rfl hsh, Ila_c (g := g) (h := g) rfl rfl hla⟩
             · subst hh; rfl
             · subst hh; rfl)
          | (refine ⟨congrArg (fun z => some (vI z)) ?_, ?_, ?_, ?_⟩
             · omega
             · subst hh; exact ⟨⟨hS, hR, h6, hP⟩, Isg_c (g := g) (h := g) rfl rfl hsg, Itx_c (g := g) (h := g) rfl rfl rfl rfl htx, Iru_c (g := g) (h := g) (r := r) (by omega) hR (fun _ _ _ => rfl) (fun _ _ _ => rfl) rfl rfl rfl rfl rfl rfl rfl rfl hru, Iwd_c (g := g) (h := g) (by omega) rfl rfl rfl rfl rfl rfl hwd, Inw_c (g := g) (h := g) rfl rfl rfl rfl (fun _ _ _ => rfl) hnw, Ist_c (g := g) (h := g) (r := r) hR rfl rfl (fun _ _ _ => rfl) (fun _ _ _ => rfl) rfl rfl rfl rfl (fun _ _ => rfl) (fun _ _ => rfl) (fun _ _ => rfl) rfl rfl rfl hst, Ish_c (g := g) (h := g) rfl rfl rfl rfl rfl hsh, Ila_c (g := g) (h := g) rfl rfl hla⟩
             · subst hh; rfl
             · subst hh; rfl)
      · refine o_iload_n (n := 8) rfl rfl rfl ?_
        refine o_i2l (n := 9) rfl rfl ?_
        refine o_lconst (n := 10) rfl rfl ?_
        refine o_ldc2_w (n := 13) rfl rfl ?_
        refine o_invsi (n := 16) rfl rfl rfl rfl rfl rfl (c8_in _ _ _) ?_
        refine o_ifb_eq (n := 19) (t := 25) rfl rfl rfl (fun k16 => ?_) (fun k16 => ?_)
        · refine o_bipush (n := 27) rfl rfl ?_
          refine o_iret rfl rfl ?_
          first
            | (exfalso; omega; done)
            | (refine ⟨rfl, ?_, ?_, ?_⟩
               · subst hh; exact ⟨⟨hS, hR, h6, hP⟩, Isg_c (g := g) (h := g) rfl rfl hsg, Itx_c (g := g) (h := g) rfl rfl rfl rfl htx, Iru_c (g := g) (h := g) (r := r) (by omega) hR (fun _ _ _ => rfl) (fun _ _ _ => rfl) rfl rfl rfl rfl rfl rfl rfl rfl hru, Iwd_c (g := g) (h := g) (by omega) rfl rfl rfl rfl rfl rfl hwd, Inw_c (g := g) (h := g) rfl rfl rfl rfl (fun _ _ _ => rfl) hnw, Ist_c (g := g) (h := g) (r := r) hR rfl rfl (fun _ _ _ => rfl) (fun _ _ _ => rfl) rfl rfl rfl rfl (fun _ _ => rfl) (fun _ _ => rfl) (fun _ _ => rfl) rfl rfl rfl hst, Ish_c (g := g) (h := g) rfl rfl rfl rfl rfl hsh, Ila_c (g := g) (h := g) rfl rfl hla⟩
               · subst hh; rfl
               · subst hh; rfl)
            | (refine ⟨congrArg (fun z => some (vI z)) ?_, ?_, ?_, ?_⟩
               · omega
               · subst hh; exact ⟨⟨hS, hR, h6, hP⟩, Isg_c (g := g) (h := g) rfl rfl hsg, Itx_c (g := g) (h := g) rfl rfl rfl rfl htx, Iru_c (g := g) (h := g) (r := r) (by omega) hR (fun _ _ _ => rfl) (fun _ _ _ => rfl) rfl rfl rfl rfl rfl rfl rfl rfl hru, Iwd_c (g := g) (h := g) (by omega) rfl rfl rfl rfl rfl rfl hwd, Inw_c (g := g) (h := g) rfl rfl rfl rfl (fun _ _ _ => rfl) hnw, Ist_c (g := g) (h := g) (r := r) hR rfl rfl (fun _ _ _ => rfl) (fun _ _ _ => rfl) rfl rfl rfl rfl (fun _ _ => rfl) (fun _ _ => rfl) (fun _ _ => rfl) rfl rfl rfl hst, Ish_c (g := g) (h := g) rfl rfl rfl rfl rfl hsh, Ila_c (g := g) (h := g) rfl rfl hla⟩
               · subst hh; rfl
               · subst hh; rfl)
        · refine o_iload_n (n := 20) rfl rfl rfl ?_
          refine o_bipush (n := 22) rfl rfl ?_
          refine o_icmp_le (n := 25) (t := 28) rfl rfl rfl (fun k22 => ?_) (fun k22 => ?_)
          · refine o_iload_n (n := 29) rfl rfl rfl ?_
            refine o_if_ge (n := 32) (t := 38) rfl rfl rfl (fun k29 => ?_) (fun k29 => ?_)
            · refine o_aload_n (n := 39) rfl rfl rfl ?_
              refine of_8_0 (n := 42) hS rfl rfl ?_
              refine o_iload_n (n := 43) rfl rfl rfl ?_
              refine o_iload_n (n := 44) rfl rfl rfl ?_
              refine o_iast (n := 45) (L := 4) rfl rfl rfl rfl rfl (by omega) (by omega) ?_
              refine o_aload_n (n := 46) rfl rfl rfl ?_
              refine of_8_1 (n := 49) hS rfl rfl ?_
              refine o_iload_n (n := 50) rfl rfl rfl ?_
              refine o_iload_n (n := 51) rfl rfl rfl ?_
              refine o_iast (n := 52) (L := 4) rfl rfl rfl rfl rfl (by omega) (by omega) ?_
              refine o_iconst (n := 53) rfl rfl ?_
              refine o_istore_4 (n := 55) rfl rfl rfl ?_
              exfalso; omega
            · refine o_aload_n (n := 33) rfl rfl rfl ?_
              refine o_iconst (n := 34) rfl rfl ?_
              refine o_invi (n := 37) rfl rfl rfl rfl rfl rfl rfl rfl rfl rfl (c8_finds _ (by omega) (by omega)) ?_
              refine o_iret rfl rfl ?_
              first
                | (exfalso; omega; done)
                | (refine ⟨rfl, ?_, ?_, ?_⟩
                   · subst hh; exact ⟨⟨hS, hR, h6, hP⟩, Isg_c (g := g) (h := g) rfl rfl hsg, Itx_c (g := g) (h := g) rfl rfl rfl rfl htx, Iru_c (g := g) (h := g) (r := r) (by omega) hR (fun _ _ _ => rfl) (fun _ _ _ => rfl) rfl rfl rfl rfl rfl rfl rfl rfl hru, Iwd_c (g := g) (h := g) (by omega) rfl rfl rfl rfl rfl rfl hwd, Inw_c (g := g) (h := g) rfl rfl rfl rfl (fun _ _ _ => rfl) hnw, Ist_c (g := g) (h := g) (r := r) hR rfl rfl (fun _ _ _ => rfl) (fun _ _ _ => rfl) rfl rfl rfl rfl (fun _ _ => rfl) (fun _ _ => rfl) (fun _ _ => rfl) rfl rfl rfl hst, Ish_c (g := g) (h := g) rfl rfl rfl rfl rfl hsh, rfl⟩
                   · subst hh; rfl
                   · subst hh; rfl)
                | (refine ⟨congrArg (fun z => some (vI z)) ?_, ?_, ?_, ?_⟩
                   · omega
                   · subst hh; exact ⟨⟨hS, hR, h6, hP⟩, Isg_c (g := g) (h := g) rfl rfl hsg, Itx_c (g := g) (h := g) rfl rfl rfl rfl htx, Iru_c (g := g) (h := g) (r := r) (by omega) hR (fun _ _ _ => rfl) (fun _ _ _ => rfl) rfl rfl rfl rfl rfl rfl rfl rfl hru, Iwd_c (g := g) (h := g) (by omega) rfl rfl rfl rfl rfl rfl hwd, Inw_c (g := g) (h := g) rfl rfl rfl rfl (fun _ _ _ => rfl) hnw, Ist_c (g := g) (h := g) (r := r) hR rfl rfl (fun _ _ _ => rfl) (fun _ _ _ => rfl) rfl rfl rfl rfl (fun _ _ => rfl) (fun _ _ => rfl) (fun _ _ => rfl) rfl rfl rfl hst, Ish_c (g := g) (h := g) rfl rfl rfl rfl rfl hsh, rfl⟩
                   · subst hh; rfl
                   · subst hh; rfl)
          · refine o_bipush (n := 27) rfl rfl ?_
            refine o_iret rfl rfl ?_
            first
              | (exfalso; omega; done)
              | (refine ⟨rfl, ?_, ?_, ?_⟩
                 · subst hh; exact ⟨⟨hS, hR, h6, hP⟩, Isg_c (g := g) (h := g) rfl rfl hsg, Itx_c (g := g) (h := g) rfl rfl rfl rfl htx, Iru_c (g := g) (h := g) (r := r) (by omega) hR (fun _ _ _ => rfl) (fun _ _ _ => rfl) rfl rfl rfl rfl rfl rfl rfl rfl hru, Iwd_c (g := g) (h := g) (by omega) rfl rfl rfl rfl rfl rfl hwd, Inw_c (g := g) (h := g) rfl rfl rfl rfl (fun _ _ _ => rfl) hnw, Ist_c (g := g) (h := g) (r := r) hR rfl rfl (fun _ _ _ => rfl) (fun _ _ _ => rfl) rfl rfl rfl rfl (fun _ _ => rfl) (fun _ _ => rfl) (fun _ _ => rfl) rfl rfl rfl hst, Ish_c (g := g) (h := g) rfl rfl rfl rfl rfl hsh, Ila_c (g := g) (h := g) rfl rfl hla⟩
                 · subst hh; rfl
                 · subst hh; rfl)
              | (refine ⟨congrArg (fun z => some (vI z)) ?_, ?_, ?_, ?_⟩
                 · omega
                 · subst hh; exact ⟨⟨hS, hR, h6, hP⟩, Isg_c (g := g) (h := g) rfl rfl hsg, Itx_c (g := g) (h := g) rfl rfl rfl rfl htx, Iru_c (g := g) (h := g) (r := r) (by omega) hR (fun _ _ _ => rfl) (fun _ _ _ => rfl) rfl rfl rfl rfl rfl rfl rfl rfl hru, Iwd_c (g := g) (h := g) (by omega) rfl rfl rfl rfl rfl rfl hwd, Inw_c (g := g) (h := g) rfl rfl rfl rfl (fun _ _ _ => rfl) hnw, Ist_c (g := g) (h := g) (r := r) hR rfl rfl (fun _ _ _ => rfl) (fun _ _ _ => rfl) rfl rfl rfl rfl (fun _ _ => rfl) (fun _ _ => rfl) (fun _ _ => rfl) rfl rfl rfl hst, Ish_c (g := g) (h := g) rfl rfl rfl rfl rfl hsh, Ila_c (g := g) (h := g) rfl rfl hla⟩
                 · subst hh; rfl
                 · subst hh; rfl)
    · refine o_iload_n (n := 15) rfl rfl rfl ?_
      refine o_bipush (n := 17) rfl rfl ?_
      refine o_icmp_le (n := 20) (t := 23) rfl rfl rfl (fun q17 => ?_) (fun q17 => ?_)
      · refine o_iload_n (n := 24) rfl rfl rfl ?_
        refine o_if_ge (n := 27) (t := 33) rfl rfl rfl (fun q24 => ?_) (fun q24 => ?_)
        · refine o_aload_n (n := 34) rfl rfl rfl ?_
          refine of_7_4 (n := 37) hS rfl rfl ?_
          refine o_iload_n (n := 38) rfl rfl rfl ?_
          refine o_shr (n := 39) hS rfl rfl (by omega) (by omega) ?_
          refine o_iload_n (n := 40) rfl rfl rfl ?_
          refine o_iload_n (n := 41) rfl rfl rfl ?_
          obtain ⟨v1, g1, r1, hc, hv1, hr1, f1, f2, f3, f4⟩ := rt_ex (c3_renew (g := g) (f := f) (n := n) hS (a := a) (by omega) (by omega))
          subst hv1
          subst hr1
          refine o_invv (n := 44) rfl rfl rfl rfl rfl rfl rfl rfl rfl (ok_3 (by omega) (by omega)) (hc) ?_
          refine o_iload_n (n := 45) rfl rfl rfl ?_
          refine o_iret rfl rfl ?_
          refine q8_of (g := g) (r := r1) (fun k hk => f1 k (isM_ne hk (by decide)) (isM_ne hk (by decide))) hI (fun h hh hJ => ?_)
          show Ou 114 0 [vR 8 0, vI a, vI f, vI n, vN] [] h _ _
          obtain ⟨jsg1, jsg2, jsg3⟩ := hJ.2.1
          obtain ⟨jtx1, jtx2, jtx3, jtx4⟩ := hJ.2.2.1
          have jru0 : g 7 0 10 = h 8 0 8 := hJ.2.2.2.1.1.1
          have jru1 := hJ.2.2.2.1.2.1.1
          have jwd0 : g 1 0 1 = h 8 0 14 := hJ.2.2.2.2.1.1.1
          have jwd1 := hJ.2.2.2.2.1.2.1.1
          have jwd2 := hJ.2.2.2.2.1.2.2
          have jnw0 : g 0 0 0 = h 27 0 8 := hJ.2.2.2.2.2.1.1.1
          have jnw1 : g 0 0 1 = h 28 0 8 := hJ.2.2.2.2.2.1.1.2.1
          have jnw2 := hJ.2.2.2.2.2.1.2.1
          have jnw3 := hJ.2.2.2.2.2.1.2.2.1
          have jst0 := hJ.2.2.2.2.2.2.1.1
          have jst1 := hJ.2.2.2.2.2.2.1.2.1
          have jst2 := hJ.2.2.2.2.2.2.1.2.2.1
          have jla0 : g 7 0 13 = h 8 0 4 := hJ.2.2.2.2.2.2.2.2
          have jsh_a : (0 ≤ a ∧ a < 4) → (g 3 a 0 = h 17 0 a ∧ -1 ≤ h 17 0 a ∧ h 17 0 a ≤ 2 ∧ g 3 a 1 = h 18 0 a ∧ 0 ≤ h 18 0 a ∧ h 18 0 a ≤ 60) := fun z => by
            have := hJ.2.2.2.2.2.2.2.1 a z.1 z.2
            exact ⟨this.1.1, this.1.2.1, this.1.2.2, this.2.1.1, this.2.1.2.1, this.2.1.2.2⟩
          refine o_iload_n (n := 1) rfl rfl rfl ?_
          refine o_invsi (n := 4) rfl rfl rfl rfl rfl rfl (c8_isSheet _) ?_
          refine o_ifb_eq (n := 7) (t := 25) rfl rfl rfl (fun k4 => ?_) (fun k4 => ?_)
          · refine o_bipush (n := 27) rfl rfl ?_
            refine o_iret rfl rfl ?_
            first
              | (exfalso; omega; done)
              | (refine ⟨rfl, ?_, ?_, ?_⟩
                 · subst hh; exact ⟨⟨hS, hR, h6, hP⟩, Isg_c (g := g) (h := g) rfl rfl hsg, Itx_c (g := g) (h := g) rfl rfl rfl rfl htx, Iru_c (g := g) (h := g) (r := r1) (by omega) hR (fun _ _ _ => rfl) (fun _ _ _ => rfl) rfl rfl rfl rfl rfl rfl rfl rfl hru, Iwd_c (g := g) (h := g) (by omega) rfl rfl rfl rfl rfl rfl hwd, Inw_c (g := g) (h := g) rfl rfl rfl rfl (fun _ _ _ => rfl) hnw, Ist_c (g := g) (h := g) (r := r1) hR rfl rfl (fun _ _ _ => rfl) (fun _ _ _ => rfl) rfl rfl rfl rfl (fun _ _ => rfl) (fun _ _ => rfl) (fun _ _ => rfl) rfl rfl rfl hst, Ish_c (g := g) (h := g) rfl rfl rfl rfl rfl hsh, Ila_c (g := g) (h := g) rfl rfl hla⟩
                 · subst hh; rfl
                 · subst hh; rfl)
              | (refine ⟨congrArg (fun z => some (vI z)) ?_, ?_, ?_, ?_⟩
                 · omega
                 · subst hh; exact ⟨⟨hS, hR, h6, hP⟩, Isg_c (g := g) (h := g) rfl rfl hsg, Itx_c (g := g) (h := g) rfl rfl rfl rfl htx, Iru_c (g := g) (h := g) (r := r1) (by omega) hR (fun _ _ _ => rfl) (fun _ _ _ => rfl) rfl rfl rfl rfl rfl rfl rfl rfl hru, Iwd_c (g := g) (h := g) (by omega) rfl rfl rfl rfl rfl rfl hwd, Inw_c (g := g) (h := g) rfl rfl rfl rfl (fun _ _ _ => rfl) hnw, Ist_c (g := g) (h := g) (r := r1) hR rfl rfl (fun _ _ _ => rfl) (fun _ _ _ => rfl) rfl rfl rfl rfl (fun _ _ => rfl) (fun _ _ => rfl) (fun _ _ => rfl) rfl rfl rfl hst, Ish_c (g := g) (h := g) rfl rfl rfl rfl rfl hsh, Ila_c (g := g) (h := g) rfl rfl hla⟩
                 · subst hh; rfl
                 · subst hh; rfl)
          · refine o_iload_n (n := 8) rfl rfl rfl ?_
            refine o_i2l (n := 9) rfl rfl ?_
            refine o_lconst (n := 10) rfl rfl ?_
            refine o_ldc2_w (n := 13) rfl rfl ?_
            refine o_invsi (n := 16) rfl rfl rfl rfl rfl rfl (c8_in _ _ _) ?_
            refine o_ifb_eq (n := 19) (t := 25) rfl rfl rfl (fun k16 => ?_) (fun k16 => ?_)
            · refine o_bipush (n := 27) rfl rfl ?_
              refine o_iret rfl rfl ?_
              first
                | (exfalso; omega; done)
                | (refine ⟨rfl, ?_, ?_, ?_⟩
                   · subst hh; exact ⟨⟨hS, hR, h6, hP⟩, Isg_c (g := g) (h := g) rfl rfl hsg, Itx_c (g := g) (h := g) rfl rfl rfl rfl htx, Iru_c (g := g) (h := g) (r := r1) (by omega) hR (fun _ _ _ => rfl) (fun _ _ _ => rfl) rfl rfl rfl rfl rfl rfl rfl rfl hru, Iwd_c (g := g) (h := g) (by omega) rfl rfl rfl rfl rfl rfl hwd, Inw_c (g := g) (h := g) rfl rfl rfl rfl (fun _ _ _ => rfl) hnw, Ist_c (g := g) (h := g) (r := r1) hR rfl rfl (fun _ _ _ => rfl) (fun _ _ _ => rfl) rfl rfl rfl rfl (fun _ _ => rfl) (fun _ _ => rfl) (fun _ _ => rfl) rfl rfl rfl hst, Ish_c (g := g) (h := g) rfl rfl rfl rfl rfl hsh, Ila_c (g := g) (h := g) rfl rfl hla⟩
                   · subst hh; rfl
                   · subst hh; rfl)
                | (refine ⟨congrArg (fun z => some (vI z)) ?_, ?_, ?_, ?_⟩
                   · omega
                   · subst hh; exact ⟨⟨hS, hR, h6, hP⟩, Isg_c (g := g) (h := g) rfl rfl hsg, Itx_c (g := g) (h := g) rfl rfl rfl rfl htx, Iru_c (g := g) (h := g) (r := r1) (by omega) hR (fun _ _ _ => rfl) (fun _ _ _ => rfl) rfl rfl rfl rfl rfl rfl rfl rfl hru, Iwd_c (g := g) (h := g) (by omega) rfl rfl rfl rfl rfl rfl hwd, Inw_c (g := g) (h := g) rfl rfl rfl rfl (fun _ _ _ => rfl) hnw, Ist_c (g := g) (h := g) (r := r1) hR rfl rfl (fun _ _ _ => rfl) (fun _ _ _ => rfl) rfl rfl rfl rfl (fun _ _ => rfl) (fun _ _ => rfl) (fun _ _ => rfl) rfl rfl rfl hst, Ish_c (g := g) (h := g) rfl rfl rfl rfl rfl hsh, Ila_c (g := g) (h := g) rfl rfl hla⟩
                   · subst hh; rfl
                   · subst hh; rfl)
            · refine o_iload_n (n := 20) rfl rfl rfl ?_
              refine o_bipush (n := 22) rfl rfl ?_
              refine o_icmp_le (n := 25) (t := 28) rfl rfl rfl (fun k22 => ?_) (fun k22 => ?_)
              · refine o_iload_n (n := 29) rfl rfl rfl ?_
                refine o_if_ge (n := 32) (t := 38) rfl rfl rfl (fun k29 => ?_) (fun k29 => ?_)
                · refine o_aload_n (n := 39) rfl rfl rfl ?_
                  refine of_8_0 (n := 42) hS rfl rfl ?_
                  refine o_iload_n (n := 43) rfl rfl rfl ?_
                  refine o_iload_n (n := 44) rfl rfl rfl ?_
                  refine o_iast (n := 45) (L := 4) rfl rfl rfl rfl rfl (by omega) (by omega) ?_
                  refine o_aload_n (n := 46) rfl rfl rfl ?_
                  refine of_8_1 (n := 49) hS rfl rfl ?_
                  refine o_iload_n (n := 50) rfl rfl rfl ?_
                  refine o_iload_n (n := 51) rfl rfl rfl ?_
                  refine o_iast (n := 52) (L := 4) rfl rfl rfl rfl rfl (by omega) (by omega) ?_
                  refine o_iconst (n := 53) rfl rfl ?_
                  refine o_istore_4 (n := 55) rfl rfl rfl ?_
                  first
                    | (exfalso; omega; done)
                    | (have hsh2 := hh
                       obtain ⟨k2, v2, g2, r2, e1, e2, e3, e4, e5⟩ := l8_zero (h := gset (gset h 17 0 a f) 18 0 a n) (f := f) (a := a) (n := n) hS (by omega) (by omega) (by omega) n.toNat 0 (gset (gset h 17 0 a f) 18 0 a n) (by omega) (by omega) (fun _ _ => rfl) (fun t => by rw [cif_f (by omega)])
                       subst e2; subst e3
                       have ek : ∀ k, k ≠ 17 → k ≠ 18 → k ≠ 19 → g2 k = h k := fun k x y z => (e4 k z).trans ((gset_kf y).trans (gset_kf x))
                       subst hh
                       have eg : ∀ k, k ≠ 3 → k ≠ 11 → k ≠ 17 → k ≠ 18 → k ≠ 19 → k ≠ 20 → g2 k = g k := fun k a1 a2 a3 a4 a5 _ => (ek k a3 a4 a5).trans (f1 k a2 a1)
                       refine ⟨k2, _, _, _, e1, rfl, Iv_sh eg (fun s s0 s1 => ?_) hI, eg 34 (by decide) (by decide) (by decide) (by decide) (by decide) (by decide), eg 35 (by decide) (by decide) (by decide) (by decide) (by decide) (by decide)⟩
                       have hs := hsh s s0 s1
                       rw [ek 3 (by decide) (by decide) (by decide), ek 11 (by decide) (by decide) (by decide), e4 17 (by decide), e4 18 (by decide)]
                       by_cases z : s = a
                       · subst z
                         rw [gset_k rfl, gset_at, gset_at, f3.1, f3.2]
                         refine ⟨by omega, by omega, fun i i0 i1 => ?_⟩
                         rw [f4 i i0 (by omega), e5, cif_t (by omega)]
                       · rw [gset_k rfl, gset_s z, gset_s z, (f2 s 0 z).2, (f2 s 1 z).2, gset_k rfl, f1 17 (by decide) (by decide), f1 18 (by decide) (by decide)]
                         refine ⟨hs.1, hs.2.1, fun i i0 i1 => ?_⟩
                         rw [(f2 s i z).1, e5, cif_f (by omega)]
                         show g 11 s i = (gset (gset g1 17 0 a f) 18 0 a n) 19 0 (60 * s + i)
                         rw [gset_k rfl, gset_k rfl, f1 19 (by decide) (by decide)]
                         exact hs.2.2 i i0 i1)
                · refine o_aload_n (n := 33) rfl rfl rfl ?_
                  refine o_iconst (n := 34) rfl rfl ?_
                  refine o_invi (n := 37) rfl rfl rfl rfl rfl rfl rfl rfl rfl rfl (c8_finds _ (by omega) (by omega)) ?_
                  refine o_iret rfl rfl ?_
                  first
                    | (exfalso; omega; done)
                    | (refine ⟨rfl, ?_, ?_, ?_⟩
                       · subst hh; exact ⟨⟨hS, hR, h6, hP⟩, Isg_c (g := g) (h := g) rfl rfl hsg, Itx_c (g := g) (h := g) rfl rfl rfl rfl htx, Iru_c (g := g) (h := g) (r := r1) (by omega) hR (fun _ _ _ => rfl) (fun _ _ _ => rfl) rfl rfl rfl rfl rfl rfl rfl rfl hru, Iwd_c (g := g) (h := g) (by omega) rfl rfl rfl rfl rfl rfl hwd, Inw_c (g := g) (h := g) rfl rfl rfl rfl (fun _ _ _ => rfl) hnw, Ist_c (g := g) (h := g) (r := r1) hR rfl rfl (fun _ _ _ => rfl) (fun _ _ _ => rfl) rfl rfl rfl rfl (fun _ _ => rfl) (fun _ _ => rfl) (fun _ _ => rfl) rfl rfl rfl hst, Ish_c (g := g) (h := g) rfl rfl rfl rfl rfl hsh, Ila_c (g := g) (h := g) rfl rfl hla⟩
                       · subst hh; rfl
                       · subst hh; rfl)
                    | (refine ⟨congrArg (fun z => some (vI z)) ?_, ?_, ?_, ?_⟩
                       · omega
                       · subst hh; exact ⟨⟨hS, hR, h6, hP⟩, Isg_c (g := g) (h := g) rfl rfl hsg, Itx_c (g := g) (h := g) rfl rfl rfl rfl htx, Iru_c (g := g) (h := g) (r := r1) (by omega) hR (fun _ _ _ => rfl) (fun _ _ _ => rfl) rfl rfl rfl rfl rfl rfl rfl rfl hru, Iwd_c (g := g) (h := g) (by omega) rfl rfl rfl rfl rfl rfl hwd, Inw_c (g := g) (h := g) rfl rfl rfl rfl (fun _ _ _ => rfl) hnw, Ist_c (g := g) (h := g) (r := r1) hR rfl rfl (fun _ _ _ => rfl) (fun _ _ _ => rfl) rfl rfl rfl rfl (fun _ _ => rfl) (fun _ _ => rfl) (fun _ _ => rfl) rfl rfl rfl hst, Ish_c (g := g) (h := g) rfl rfl rfl rfl rfl hsh, Ila_c (g := g) (h := g) rfl rfl hla⟩
                       · subst hh; rfl
                       · subst hh; rfl)
              · refine o_bipush (n := 27) rfl rfl ?_
                refine o_iret rfl rfl ?_
                first
                  | (exfalso; omega; done)
                  | (refine ⟨rfl, ?_, ?_, ?_⟩
                     · subst hh; exact ⟨⟨hS, hR, h6, hP⟩, Isg_c (g := g) (h := g) rfl rfl hsg, Itx_c (g := g) (h := g) rfl rfl rfl rfl htx, Iru_c (g := g) (h := g) (r := r1) (by omega) hR (fun _ _ _ => rfl) (fun _ _ _ => rfl) rfl rfl rfl rfl rfl rfl rfl rfl hru, Iwd_c (g := g) (h := g) (by omega) rfl rfl rfl rfl rfl rfl hwd, Inw_c (g := g) (h := g) rfl rfl rfl rfl (fun _ _ _ => rfl) hnw, Ist_c (g := g) (h := g) (r := r1) hR rfl rfl (fun _ _ _ => rfl) (fun _ _ _ => rfl) rfl rfl rfl rfl (fun _ _ => rfl) (fun _ _ => rfl) (fun _ _ => rfl) rfl rfl rfl hst, Ish_c (g := g) (h := g) rfl rfl rfl rfl rfl hsh, Ila_c (g := g) (h := g) rfl rfl hla⟩
                     · subst hh; rfl
                     · subst hh; rfl)
                  | (refine ⟨congrArg (fun z => some (vI z)) ?_, ?_, ?_, ?_⟩
                     · omega
                     · subst hh; exact ⟨⟨hS, hR, h6, hP⟩, Isg_c (g := g) (h := g) rfl rfl hsg, Itx_c (g := g) (h := g) rfl rfl rfl rfl htx, Iru_c (g := g) (h := g) (r := r1) (by omega) hR (fun _ _ _ => rfl) (fun _ _ _ => rfl) rfl rfl rfl rfl rfl rfl rfl rfl hru, Iwd_c (g := g) (h := g) (by omega) rfl rfl rfl rfl rfl rfl hwd, Inw_c (g := g) (h := g) rfl rfl rfl rfl (fun _ _ _ => rfl) hnw, Ist_c (g := g) (h := g) (r := r1) hR rfl rfl (fun _ _ _ => rfl) (fun _ _ _ => rfl) rfl rfl rfl rfl (fun _ _ => rfl) (fun _ _ => rfl) (fun _ _ => rfl) rfl rfl rfl hst, Ish_c (g := g) (h := g) rfl rfl rfl rfl rfl hsh, Ila_c (g := g) (h := g) rfl rfl hla⟩
                     · subst hh; rfl
                     · subst hh; rfl)
        · refine o_aload_n (n := 28) rfl rfl rfl ?_
          refine o_iconst (n := 29) rfl rfl ?_
          refine o_invi (n := 32) rfl rfl rfl rfl rfl rfl rfl rfl rfl rfl (c7_found _ (by omega) (by omega)) ?_
          refine o_iret rfl rfl ?_
          refine q8_of (g := g) (r := r) (fun k hk => by first | rfl | exact gset_kf (isM_ne hk (by decide)) | exact (gset_kf (isM_ne hk (by decide))).trans (gset_kf (isM_ne hk (by decide))) | exact (gset_kf (isM_ne hk (by decide))).trans ((gset_kf (isM_ne hk (by decide))).trans (gset_kf (isM_ne hk (by decide)))) | exact (gset_kf (isM_ne hk (by decide))).trans ((gset_kf (isM_ne hk (by decide))).trans ((gset_kf (isM_ne hk (by decide))).trans (gset_kf (isM_ne hk (by decide)))))) hI (fun h hh hJ => ?_)
          show Ou 114 0 [vR 8 0, vI a, vI f, vI n, vN] [] h _ _
          obtain ⟨jsg1, jsg2, jsg3⟩ := hJ.2.1
          obtain ⟨jtx1, jtx2, jtx3, jtx4⟩ := hJ.2.2.1
          have jru0 : g 7 0 10 = h 8 0 8 := hJ.2.2.2.1.1.1
          have jru1 := hJ.2.2.2.1.2.1.1
          have jwd0 : g 1 0 1 = h 8 0 14 := hJ.2.2.2.2.1.1.1
          have jwd1 := hJ.2.2.2.2.1.2.1.1
          have jwd2 := hJ.2.2.2.2.1.2.2
          have jnw0 : g 0 0 0 = h 27 0 8 := hJ.2.2.2.2.2.1.1.1
          have jnw1 : g 0 0 1 = h 28 0 8 := hJ.2.2.2.2.2.1.1.2.1
          have jnw2 := hJ.2.2.2.2.2.1.2.1
          have jnw3 := hJ.2.2.2.2.2.1.2.2.1
          have jst0 := hJ.2.2.2.2.2.2.1.1
          have jst1 := hJ.2.2.2.2.2.2.1.2.1
          have jst2 := hJ.2.2.2.2.2.2.1.2.2.1
          have jla0 : g 7 0 13 = h 8 0 4 := hJ.2.2.2.2.2.2.2.2
          have jsh_a : (0 ≤ a ∧ a < 4) → (g 3 a 0 = h 17 0 a ∧ -1 ≤ h 17 0 a ∧ h 17 0 a ≤ 2 ∧ g 3 a 1 = h 18 0 a ∧ 0 ≤ h 18 0 a ∧ h 18 0 a ≤ 60) := fun z => by
            have := hJ.2.2.2.2.2.2.2.1 a z.1 z.2
            exact ⟨this.1.1, this.1.2.1, this.1.2.2, this.2.1.1, this.2.1.2.1, this.2.1.2.2⟩
          refine o_iload_n (n := 1) rfl rfl rfl ?_
          refine o_invsi (n := 4) rfl rfl rfl rfl rfl rfl (c8_isSheet _) ?_
          refine o_ifb_eq (n := 7) (t := 25) rfl rfl rfl (fun k4 => ?_) (fun k4 => ?_)
          · refine o_bipush (n := 27) rfl rfl ?_
            refine o_iret rfl rfl ?_
            first
              | (exfalso; omega; done)
              | (refine ⟨rfl, ?_, ?_, ?_⟩
                 · subst hh; exact ⟨⟨hS, hR, h6, hP⟩, Isg_c (g := g) (h := g) rfl rfl hsg, Itx_c (g := g) (h := g) rfl rfl rfl rfl htx, Iru_c (g := g) (h := g) (r := r) (by omega) hR (fun _ _ _ => rfl) (fun _ _ _ => rfl) rfl rfl rfl rfl rfl rfl rfl rfl hru, Iwd_c (g := g) (h := g) (by omega) rfl rfl rfl rfl rfl rfl hwd, Inw_c (g := g) (h := g) rfl rfl rfl rfl (fun _ _ _ => rfl) hnw, Ist_c (g := g) (h := g) (r := r) hR rfl rfl (fun _ _ _ => rfl) (fun _ _ _ => rfl) rfl rfl rfl rfl (fun _ _ => rfl) (fun _ _ => rfl) (fun _ _ => rfl) rfl rfl rfl hst, Ish_c (g := g) (h := g) rfl rfl rfl rfl rfl hsh, Ila_c (g := g) (h := g) rfl rfl hla⟩
                 · subst hh; rfl
                 · subst hh; rfl)
              | (refine ⟨congrArg (fun z => some (vI z)) ?_, ?_, ?_, ?_⟩
                 · omega
                 · subst hh; exact ⟨⟨hS, hR, h6, hP⟩, Isg_c (g := g) (h := g) rfl rfl hsg, Itx_c (g := g) (h := g) rfl rfl rfl rfl htx, Iru_c (g := g) (h := g) (r := r) (by omega) hR (fun _ _ _ => rfl) (fun _ _ _ => rfl) rfl rfl rfl rfl rfl rfl rfl rfl hru, Iwd_c (g := g) (h := g) (by omega) rfl rfl rfl rfl rfl rfl hwd, Inw_c (g := g) (h := g) rfl rfl rfl rfl (fun _ _ _ => rfl) hnw, Ist_c (g := g) (h := g) (r := r) hR rfl rfl (fun _ _ _ => rfl) (fun _ _ _ => rfl) rfl rfl rfl rfl (fun _ _ => rfl) (fun _ _ => rfl) (fun _ _ => rfl) rfl rfl rfl hst, Ish_c (g := g) (h := g) rfl rfl rfl rfl rfl hsh, Ila_c (g := g) (h := g) rfl rfl hla⟩
                 · subst hh; rfl
                 · subst hh; rfl)
          · refine o_iload_n (n := 8) rfl rfl rfl ?_
            refine o_i2l (n := 9) rfl rfl ?_
            refine o_lconst (n := 10) rfl rfl ?_
            refine o_ldc2_w (n := 13) rfl rfl ?_
            refine o_invsi (n := 16) rfl rfl rfl rfl rfl rfl (c8_in _ _ _) ?_
            refine o_ifb_eq (n := 19) (t := 25) rfl rfl rfl (fun k16 => ?_) (fun k16 => ?_)
            · refine o_bipush (n := 27) rfl rfl ?_
              refine o_iret rfl rfl ?_
              first
                | (exfalso; omega; done)
                | (refine ⟨rfl, ?_, ?_, ?_⟩
                   · subst hh; exact ⟨⟨hS, hR, h6, hP⟩, Isg_c (g := g) (h := g) rfl rfl hsg, Itx_c (g := g) (h := g) rfl rfl rfl rfl htx, Iru_c (g := g) (h := g) (r := r) (by omega) hR (fun _ _ _ => rfl) (fun _ _ _ => rfl) rfl rfl rfl rfl rfl rfl rfl rfl hru, Iwd_c (g := g) (h := g) (by omega) rfl rfl rfl rfl rfl rfl hwd, Inw_c (g := g) (h := g) rfl rfl rfl rfl (fun _ _ _ => rfl) hnw, Ist_c (g := g) (h := g) (r := r) hR rfl rfl (fun _ _ _ => rfl) (fun _ _ _ => rfl) rfl rfl rfl rfl (fun _ _ => rfl) (fun _ _ => rfl) (fun _ _ => rfl) rfl rfl rfl hst, Ish_c (g := g) (h := g) rfl rfl rfl rfl rfl hsh, Ila_c (g := g) (h := g) rfl rfl hla⟩
                   · subst hh; rfl
                   · subst hh; rfl)
                | (refine ⟨congrArg (fun z => some (vI z)) ?_, ?_, ?_, ?_⟩
                   · omega
                   · subst hh; exact ⟨⟨hS, hR, h6, hP⟩, Isg_c (g := g) (h := g) rfl rfl hsg, Itx_c (g := g) (h := g) rfl rfl rfl rfl htx, Iru_c (g := g) (h := g) (r := r) (by omega) hR (fun _ _ _ => rfl) (fun _ _ _ => rfl) rfl rfl rfl rfl rfl rfl rfl rfl hru, Iwd_c (g := g) (h := g) (by omega) rfl rfl rfl rfl rfl rfl hwd, Inw_c (g := g) (h := g) rfl rfl rfl rfl (fun _ _ _ => rfl) hnw, Ist_c (g := g) (h := g) (r := r) hR rfl rfl (fun _ _ _ => rfl) (fun _ _ _ => rfl) rfl rfl rfl rfl (fun _ _ => rfl) (fun _ _ => rfl) (fun _ _ => rfl) rfl rfl rfl hst, Ish_c (g := g) (h := g) rfl rfl rfl rfl rfl hsh, Ila_c (g := g) (h := g) rfl rfl hla⟩
                   · subst hh; rfl
                   · subst hh; rfl)
            · refine o_iload_n (n := 20) rfl rfl rfl ?_
              refine o_bipush (n := 22) rfl rfl ?_
              refine o_icmp_le (n := 25) (t := 28) rfl rfl rfl (fun k22 => ?_) (fun k22 => ?_)
              · refine o_iload_n (n := 29) rfl rfl rfl ?_
                refine o_if_ge (n := 32) (t := 38) rfl rfl rfl (fun k29 => ?_) (fun k29 => ?_)
                · refine o_aload_n (n := 39) rfl rfl rfl ?_
                  refine of_8_0 (n := 42) hS rfl rfl ?_
                  refine o_iload_n (n := 43) rfl rfl rfl ?_
                  refine o_iload_n (n := 44) rfl rfl rfl ?_
                  refine o_iast (n := 45) (L := 4) rfl rfl rfl rfl rfl (by omega) (by omega) ?_
                  refine o_aload_n (n := 46) rfl rfl rfl ?_
                  refine of_8_1 (n := 49) hS rfl rfl ?_
                  refine o_iload_n (n := 50) rfl rfl rfl ?_
                  refine o_iload_n (n := 51) rfl rfl rfl ?_
                  refine o_iast (n := 52) (L := 4) rfl rfl rfl rfl rfl (by omega) (by omega) ?_
                  refine o_iconst (n := 53) rfl rfl ?_
                  refine o_istore_4 (n := 55) rfl rfl rfl ?_
                  exfalso; omega
                · refine o_aload_n (n := 33) rfl rfl rfl ?_
                  refine o_iconst (n := 34) rfl rfl ?_
                  refine o_invi (n := 37) rfl rfl rfl rfl rfl rfl rfl rfl rfl rfl (c8_finds _ (by omega) (by omega)) ?_
                  refine o_iret rfl rfl ?_
                  first
                    | (exfalso; omega; done)
                    | (refine ⟨rfl, ?_, ?_, ?_⟩
                       · subst hh; exact ⟨⟨hS, hR, h6, hP⟩, Isg_c (g := g) (h := g) rfl rfl hsg, Itx_c (g := g) (h := g) rfl rfl rfl rfl htx, Iru_c (g := g) (h := g) (r := r) (by omega) hR (fun _ _ _ => rfl) (fun _ _ _ => rfl) rfl rfl rfl rfl rfl rfl rfl rfl hru, Iwd_c (g := g) (h := g) (by omega) rfl rfl rfl rfl rfl rfl hwd, Inw_c (g := g) (h := g) rfl rfl rfl rfl (fun _ _ _ => rfl) hnw, Ist_c (g := g) (h := g) (r := r) hR rfl rfl (fun _ _ _ => rfl) (fun _ _ _ => rfl) rfl rfl rfl rfl (fun _ _ => rfl) (fun _ _ => rfl) (fun _ _ => rfl) rfl rfl rfl hst, Ish_c (g := g) (h := g) rfl rfl rfl rfl rfl hsh, rfl⟩
                       · subst hh; rfl
                       · subst hh; rfl)
                    | (refine ⟨congrArg (fun z => some (vI z)) ?_, ?_, ?_, ?_⟩
                       · omega
                       · subst hh; exact ⟨⟨hS, hR, h6, hP⟩, Isg_c (g := g) (h := g) rfl rfl hsg, Itx_c (g := g) (h := g) rfl rfl rfl rfl htx, Iru_c (g := g) (h := g) (r := r) (by omega) hR (fun _ _ _ => rfl) (fun _ _ _ => rfl) rfl rfl rfl rfl rfl rfl rfl rfl hru, Iwd_c (g := g) (h := g) (by omega) rfl rfl rfl rfl rfl rfl hwd, Inw_c (g := g) (h := g) rfl rfl rfl rfl (fun _ _ _ => rfl) hnw, Ist_c (g := g) (h := g) (r := r) hR rfl rfl (fun _ _ _ => rfl) (fun _ _ _ => rfl) rfl rfl rfl rfl (fun _ _ => rfl) (fun _ _ => rfl) (fun _ _ => rfl) rfl rfl rfl hst, Ish_c (g := g) (h := g) rfl rfl rfl rfl rfl hsh, rfl⟩
                       · subst hh; rfl
                       · subst hh; rfl)
              · refine o_bipush (n := 27) rfl rfl ?_
                refine o_iret rfl rfl ?_
                first
                  | (exfalso; omega; done)
                  | (refine ⟨rfl, ?_, ?_, ?_⟩
                     · subst hh; exact ⟨⟨hS, hR, h6, hP⟩, Isg_c (g := g) (h := g) rfl rfl hsg, Itx_c (g := g) (h := g) rfl rfl rfl rfl htx, Iru_c (g := g) (h := g) (r := r) (by omega) hR (fun _ _ _ => rfl) (fun _ _ _ => rfl) rfl rfl rfl rfl rfl rfl rfl rfl hru, Iwd_c (g := g) (h := g) (by omega) rfl rfl rfl rfl rfl rfl hwd, Inw_c (g := g) (h := g) rfl rfl rfl rfl (fun _ _ _ => rfl) hnw, Ist_c (g := g) (h := g) (r := r) hR rfl rfl (fun _ _ _ => rfl) (fun _ _ _ => rfl) rfl rfl rfl rfl (fun _ _ => rfl) (fun _ _ => rfl) (fun _ _ => rfl) rfl rfl rfl hst, Ish_c (g := g) (h := g) rfl rfl rfl rfl rfl hsh, Ila_c (g := g) (h := g) rfl rfl hla⟩
                     · subst hh; rfl
                     · subst hh; rfl)
                  | (refine ⟨congrArg (fun z => some (vI z)) ?_, ?_, ?_, ?_⟩
                     · omega
                     · subst hh; exact ⟨⟨hS, hR, h6, hP⟩, Isg_c (g := g) (h := g) rfl rfl hsg, Itx_c (g := g) (h := g) rfl rfl rfl rfl htx, Iru_c (g := g) (h := g) (r := r) (by omega) hR (fun _ _ _ => rfl) (fun _ _ _ => rfl) rfl rfl rfl rfl rfl rfl rfl rfl hru, Iwd_c (g := g) (h := g) (by omega) rfl rfl rfl rfl rfl rfl hwd, Inw_c (g := g) (h := g) rfl rfl rfl rfl (fun _ _ _ => rfl) hnw, Ist_c (g := g) (h := g) (r := r) hR rfl rfl (fun _ _ _ => rfl) (fun _ _ _ => rfl) rfl rfl rfl rfl (fun _ _ => rfl) (fun _ _ => rfl) (fun _ _ => rfl) rfl rfl rfl hst, Ish_c (g := g) (h := g) rfl rfl rfl rfl rfl hsh, Ila_c (g := g) (h := g) rfl rfl hla⟩
                     · subst hh; rfl
                     · subst hh; rfl)
      · refine o_bipush (n := 22) rfl rfl ?_
        refine o_iret rfl rfl ?_
        refine q8_of (g := g) (r := r) (fun k hk => by first | rfl | exact gset_kf (isM_ne hk (by decide)) | exact (gset_kf (isM_ne hk (by decide))).trans (gset_kf (isM_ne hk (by decide))) | exact (gset_kf (isM_ne hk (by decide))).trans ((gset_kf (isM_ne hk (by decide))).trans (gset_kf (isM_ne hk (by decide)))) | exact (gset_kf (isM_ne hk (by decide))).trans ((gset_kf (isM_ne hk (by decide))).trans ((gset_kf (isM_ne hk (by decide))).trans (gset_kf (isM_ne hk (by decide)))))) hI (fun h hh hJ => ?_)
        show Ou 114 0 [vR 8 0, vI a, vI f, vI n, vN] [] h _ _
        obtain ⟨jsg1, jsg2, jsg3⟩ := hJ.2.1
        obtain ⟨jtx1, jtx2, jtx3, jtx4⟩ := hJ.2.2.1
        have jru0 : g 7 0 10 = h 8 0 8 := hJ.2.2.2.1.1.1
        have jru1 := hJ.2.2.2.1.2.1.1
        have jwd0 : g 1 0 1 = h 8 0 14 := hJ.2.2.2.2.1.1.1
        have jwd1 := hJ.2.2.2.2.1.2.1.1
        have jwd2 := hJ.2.2.2.2.1.2.2
        have jnw0 : g 0 0 0 = h 27 0 8 := hJ.2.2.2.2.2.1.1.1
        have jnw1 : g 0 0 1 = h 28 0 8 := hJ.2.2.2.2.2.1.1.2.1
        have jnw2 := hJ.2.2.2.2.2.1.2.1
        have jnw3 := hJ.2.2.2.2.2.1.2.2.1
        have jst0 := hJ.2.2.2.2.2.2.1.1
        have jst1 := hJ.2.2.2.2.2.2.1.2.1
        have jst2 := hJ.2.2.2.2.2.2.1.2.2.1
        have jla0 : g 7 0 13 = h 8 0 4 := hJ.2.2.2.2.2.2.2.2
        have jsh_a : (0 ≤ a ∧ a < 4) → (g 3 a 0 = h 17 0 a ∧ -1 ≤ h 17 0 a ∧ h 17 0 a ≤ 2 ∧ g 3 a 1 = h 18 0 a ∧ 0 ≤ h 18 0 a ∧ h 18 0 a ≤ 60) := fun z => by
          have := hJ.2.2.2.2.2.2.2.1 a z.1 z.2
          exact ⟨this.1.1, this.1.2.1, this.1.2.2, this.2.1.1, this.2.1.2.1, this.2.1.2.2⟩
        refine o_iload_n (n := 1) rfl rfl rfl ?_
        refine o_invsi (n := 4) rfl rfl rfl rfl rfl rfl (c8_isSheet _) ?_
        refine o_ifb_eq (n := 7) (t := 25) rfl rfl rfl (fun k4 => ?_) (fun k4 => ?_)
        · refine o_bipush (n := 27) rfl rfl ?_
          refine o_iret rfl rfl ?_
          first
            | (exfalso; omega; done)
            | (refine ⟨rfl, ?_, ?_, ?_⟩
               · subst hh; exact ⟨⟨hS, hR, h6, hP⟩, Isg_c (g := g) (h := g) rfl rfl hsg, Itx_c (g := g) (h := g) rfl rfl rfl rfl htx, Iru_c (g := g) (h := g) (r := r) (by omega) hR (fun _ _ _ => rfl) (fun _ _ _ => rfl) rfl rfl rfl rfl rfl rfl rfl rfl hru, Iwd_c (g := g) (h := g) (by omega) rfl rfl rfl rfl rfl rfl hwd, Inw_c (g := g) (h := g) rfl rfl rfl rfl (fun _ _ _ => rfl) hnw, Ist_c (g := g) (h := g) (r := r) hR rfl rfl (fun _ _ _ => rfl) (fun _ _ _ => rfl) rfl rfl rfl rfl (fun _ _ => rfl) (fun _ _ => rfl) (fun _ _ => rfl) rfl rfl rfl hst, Ish_c (g := g) (h := g) rfl rfl rfl rfl rfl hsh, Ila_c (g := g) (h := g) rfl rfl hla⟩
               · subst hh; rfl
               · subst hh; rfl)
            | (refine ⟨congrArg (fun z => some (vI z)) ?_, ?_, ?_, ?_⟩
               · omega
               · subst hh; exact ⟨⟨hS, hR, h6, hP⟩, Isg_c (g := g) (h := g) rfl rfl hsg, Itx_c (g := g) (h := g) rfl rfl rfl rfl htx, Iru_c (g := g) (h := g) (r := r) (by omega) hR (fun _ _ _ => rfl) (fun _ _ _ => rfl) rfl rfl rfl rfl rfl rfl rfl rfl hru, Iwd_c (g := g) (h := g) (by omega) rfl rfl rfl rfl rfl rfl hwd, Inw_c (g := g) (h := g) rfl rfl rfl rfl (fun _ _ _ => rfl) hnw, Ist_c (g := g) (h := g) (r := r) hR rfl rfl (fun _ _ _ => rfl) (fun _ _ _ => rfl) rfl rfl rfl rfl (fun _ _ => rfl) (fun _ _ => rfl) (fun _ _ => rfl) rfl rfl rfl hst, Ish_c (g := g) (h := g) rfl rfl rfl rfl rfl hsh, Ila_c (g := g) (h := g) rfl rfl hla⟩
               · subst hh; rfl
               · subst hh; rfl)
        · refine o_iload_n (n := 8) rfl rfl rfl ?_
          refine o_i2l (n := 9) rfl rfl ?_
          refine o_lconst (n := 10) rfl rfl ?_
          refine o_ldc2_w (n := 13) rfl rfl ?_
          refine o_invsi (n := 16) rfl rfl rfl rfl rfl rfl (c8_in _ _ _) ?_
          refine o_ifb_eq (n := 19) (t := 25) rfl rfl rfl (fun k16 => ?_) (fun k16 => ?_)
          · refine o_bipush (n := 27) rfl rfl ?_
            refine o_iret rfl rfl ?_
            first
              | (exfalso; omega; done)
              | (refine ⟨rfl, ?_, ?_, ?_⟩
                 · subst hh; exact ⟨⟨hS, hR, h6, hP⟩, Isg_c (g := g) (h := g) rfl rfl hsg, Itx_c (g := g) (h := g) rfl rfl rfl rfl htx, Iru_c (g := g) (h := g) (r := r) (by omega) hR (fun _ _ _ => rfl) (fun _ _ _ => rfl) rfl rfl rfl rfl rfl rfl rfl rfl hru, Iwd_c (g := g) (h := g) (by omega) rfl rfl rfl rfl rfl rfl hwd, Inw_c (g := g) (h := g) rfl rfl rfl rfl (fun _ _ _ => rfl) hnw, Ist_c (g := g) (h := g) (r := r) hR rfl rfl (fun _ _ _ => rfl) (fun _ _ _ => rfl) rfl rfl rfl rfl (fun _ _ => rfl) (fun _ _ => rfl) (fun _ _ => rfl) rfl rfl rfl hst, Ish_c (g := g) (h := g) rfl rfl rfl rfl rfl hsh, Ila_c (g := g) (h := g) rfl rfl hla⟩
                 · subst hh; rfl
                 · subst hh; rfl)
              | (refine ⟨congrArg (fun z => some (vI z)) ?_, ?_, ?_, ?_⟩
                 · omega
                 · subst hh; exact ⟨⟨hS, hR, h6, hP⟩, Isg_c (g := g) (h := g) rfl rfl hsg, Itx_c (g := g) (h := g) rfl rfl rfl rfl htx, Iru_c (g := g) (h := g) (r := r) (by omega) hR (fun _ _ _ => rfl) (fun _ _ _ => rfl) rfl rfl rfl rfl rfl rfl rfl rfl hru, Iwd_c (g := g) (h := g) (by omega) rfl rfl rfl rfl rfl rfl hwd, Inw_c (g := g) (h := g) rfl rfl rfl rfl (fun _ _ _ => rfl) hnw, Ist_c (g := g) (h := g) (r := r) hR rfl rfl (fun _ _ _ => rfl) (fun _ _ _ => rfl) rfl rfl rfl rfl (fun _ _ => rfl) (fun _ _ => rfl) (fun _ _ => rfl) rfl rfl rfl hst, Ish_c (g := g) (h := g) rfl rfl rfl rfl rfl hsh, Ila_c (g := g) (h := g) rfl rfl hla⟩
                 · subst hh; rfl
                 · subst hh; rfl)
          · refine o_iload_n (n := 20) rfl rfl rfl ?_
            refine o_bipush (n := 22) rfl rfl ?_
            refine o_icmp_le (n := 25) (t := 28) rfl rfl rfl (fun k22 => ?_) (fun k22 => ?_)
            · refine o_iload_n (n := 29) rfl rfl rfl ?_
              refine o_if_ge (n := 32) (t := 38) rfl rfl rfl (fun k29 => ?_) (fun k29 => ?_)
              · refine o_aload_n (n := 39) rfl rfl rfl ?_
                refine of_8_0 (n := 42) hS rfl rfl ?_
                refine o_iload_n (n := 43) rfl rfl rfl ?_
                refine o_iload_n (n := 44) rfl rfl rfl ?_
                refine o_iast (n := 45) (L := 4) rfl rfl rfl rfl rfl (by omega) (by omega) ?_
                refine o_aload_n (n := 46) rfl rfl rfl ?_
                refine of_8_1 (n := 49) hS rfl rfl ?_
                refine o_iload_n (n := 50) rfl rfl rfl ?_
                refine o_iload_n (n := 51) rfl rfl rfl ?_
                refine o_iast (n := 52) (L := 4) rfl rfl rfl rfl rfl (by omega) (by omega) ?_
                refine o_iconst (n := 53) rfl rfl ?_
                refine o_istore_4 (n := 55) rfl rfl rfl ?_
                exfalso; omega
              · refine o_aload_n (n := 33) rfl rfl rfl ?_
                refine o_iconst (n := 34) rfl rfl ?_
                refine o_invi (n := 37) rfl rfl rfl rfl rfl rfl rfl rfl rfl rfl (c8_finds _ (by omega) (by omega)) ?_
                refine o_iret rfl rfl ?_
                first
                  | (exfalso; omega; done)
                  | (refine ⟨rfl, ?_, ?_, ?_⟩
                     · subst hh; exact ⟨⟨hS, hR, h6, hP⟩, Isg_c (g := g) (h := g) rfl rfl hsg, Itx_c (g := g) (h := g) rfl rfl rfl rfl htx, Iru_c (g := g) (h := g) (r := r) (by omega) hR (fun _ _ _ => rfl) (fun _ _ _ => rfl) rfl rfl rfl rfl rfl rfl rfl rfl hru, Iwd_c (g := g) (h := g) (by omega) rfl rfl rfl rfl rfl rfl hwd, Inw_c (g := g) (h := g) rfl rfl rfl rfl (fun _ _ _ => rfl) hnw, Ist_c (g := g) (h := g) (r := r) hR rfl rfl (fun _ _ _ => rfl) (fun _ _ _ => rfl) rfl rfl rfl rfl (fun _ _ => rfl) (fun _ _ => rfl) (fun _ _ => rfl) rfl rfl rfl hst, Ish_c (g := g) (h := g) rfl rfl rfl rfl rfl hsh, rfl⟩
                     · subst hh; rfl
                     · subst hh; rfl)
                  | (refine ⟨congrArg (fun z => some (vI z)) ?_, ?_, ?_, ?_⟩
                     · omega
                     · subst hh; exact ⟨⟨hS, hR, h6, hP⟩, Isg_c (g := g) (h := g) rfl rfl hsg, Itx_c (g := g) (h := g) rfl rfl rfl rfl htx, Iru_c (g := g) (h := g) (r := r) (by omega) hR (fun _ _ _ => rfl) (fun _ _ _ => rfl) rfl rfl rfl rfl rfl rfl rfl rfl hru, Iwd_c (g := g) (h := g) (by omega) rfl rfl rfl rfl rfl rfl hwd, Inw_c (g := g) (h := g) rfl rfl rfl rfl (fun _ _ _ => rfl) hnw, Ist_c (g := g) (h := g) (r := r) hR rfl rfl (fun _ _ _ => rfl) (fun _ _ _ => rfl) rfl rfl rfl rfl (fun _ _ => rfl) (fun _ _ => rfl) (fun _ _ => rfl) rfl rfl rfl hst, Ish_c (g := g) (h := g) rfl rfl rfl rfl rfl hsh, rfl⟩
                     · subst hh; rfl
                     · subst hh; rfl)
            · refine o_bipush (n := 27) rfl rfl ?_
              refine o_iret rfl rfl ?_
              first
                | (exfalso; omega; done)
                | (refine ⟨rfl, ?_, ?_, ?_⟩
                   · subst hh; exact ⟨⟨hS, hR, h6, hP⟩, Isg_c (g := g) (h := g) rfl rfl hsg, Itx_c (g := g) (h := g) rfl rfl rfl rfl htx, Iru_c (g := g) (h := g) (r := r) (by omega) hR (fun _ _ _ => rfl) (fun _ _ _ => rfl) rfl rfl rfl rfl rfl rfl rfl rfl hru, Iwd_c (g := g) (h := g) (by omega) rfl rfl rfl rfl rfl rfl hwd, Inw_c (g := g) (h := g) rfl rfl rfl rfl (fun _ _ _ => rfl) hnw, Ist_c (g := g) (h := g) (r := r) hR rfl rfl (fun _ _ _ => rfl) (fun _ _ _ => rfl) rfl rfl rfl rfl (fun _ _ => rfl) (fun _ _ => rfl) (fun _ _ => rfl) rfl rfl rfl hst, Ish_c (g := g) (h := g) rfl rfl rfl rfl rfl hsh, Ila_c (g := g) (h := g) rfl rfl hla⟩
                   · subst hh; rfl
                   · subst hh; rfl)
                | (refine ⟨congrArg (fun z => some (vI z)) ?_, ?_, ?_, ?_⟩
                   · omega
                   · subst hh; exact ⟨⟨hS, hR, h6, hP⟩, Isg_c (g := g) (h := g) rfl rfl hsg, Itx_c (g := g) (h := g) rfl rfl rfl rfl htx, Iru_c (g := g) (h := g) (r := r) (by omega) hR (fun _ _ _ => rfl) (fun _ _ _ => rfl) rfl rfl rfl rfl rfl rfl rfl rfl hru, Iwd_c (g := g) (h := g) (by omega) rfl rfl rfl rfl rfl rfl hwd, Inw_c (g := g) (h := g) rfl rfl rfl rfl (fun _ _ _ => rfl) hnw, Ist_c (g := g) (h := g) (r := r) hR rfl rfl (fun _ _ _ => rfl) (fun _ _ _ => rfl) rfl rfl rfl rfl (fun _ _ => rfl) (fun _ _ => rfl) (fun _ _ => rfl) rfl rfl rfl hst, Ish_c (g := g) (h := g) rfl rfl rfl rfl rfl hsh, Ila_c (g := g) (h := g) rfl rfl hla⟩
                   · subst hh; rfl
                   · subst hh; rfl)
