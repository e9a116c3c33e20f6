/-! like answers of both: copy, write. Written by wip/gen/gen31.py -/
section CP
variable {g h r : GI} {a i t j n : Int}
theorem l8_mv2 (hS : am_St r) (a0 : 0 ≤ a) (a1 : a < 4) (t0 : 0 ≤ t) (t1 : t < 4) (i0 : 0 ≤ i) (j0 : 0 ≤ j) (n0 : 0 ≤ n) (i1 : i + n ≤ 60) (j1 : j + n ≤ 60) : ∀ (m : Nat) (k : Int) (g1 : GI), (0 ≤ k) → (k + m = n) → (∀ k, k ≠ 19 → k ≠ 20 → g1 k = h k) → (∀ x, 0 ≤ x → x < n → g1 20 0 x = h 19 0 (60 * a + i + x)) → (∀ x, g1 19 0 x = cif (60 * t + j ≤ x ∧ x < 60 * t + j + k) (h 19 0 (60 * a + i + (x - (60 * t + j)))) (h 19 0 x)) → Ou 120 157 [vR 8 0, vI a, vI i, vI t, vI j, vI n, vI k] [] g1 r (fun v g2 r2 => v = some (vI 1) ∧ r2 = r ∧ (∀ k, k ≠ 19 → k ≠ 20 → g2 k = h k) ∧ ∀ x, g2 19 0 x = cif (60 * t + j ≤ x ∧ x < 60 * t + j + n) (h 19 0 (60 * a + i + (x - (60 * t + j)))) (h 19 0 x)) := by
  intro m
  induction m with
  | zero =>
    intro k g1 u0 u1 fr u2 u3
    refine o_iload (n := 159) rfl rfl rfl ?_
    refine o_iload (n := 161) rfl rfl rfl ?_
    refine o_icmp_ge (n := 164) (t := 192) rfl rfl rfl (fun h161 => ?_) (fun h161 => (by exfalso; omega))
    refine o_iconst (n := 193) rfl rfl ?_
    refine o_iret rfl rfl ?_
    have hk : k = n := by omega
    subst hk
    exact ⟨rfl, rfl, fr, u3⟩
  | succ m ih =>
    intro k g1 u0 u1 fr u2 u3
    refine o_iload (n := 159) rfl rfl rfl ?_
    refine o_iload (n := 161) rfl rfl rfl ?_
    refine o_icmp_ge (n := 164) (t := 192) rfl rfl rfl (fun h161 => (by exfalso; omega)) (fun h161 => ?_)
    refine o_aload_n (n := 165) rfl rfl rfl ?_
    refine of_8_2 (n := 168) hS rfl rfl ?_
    refine o_bipush (n := 170) rfl rfl ?_
    refine o_iload_n (n := 171) rfl rfl rfl ?_
    refine o_imul (n := 172) rfl rfl (by omega) ?_
    refine o_iload (n := 174) rfl rfl rfl ?_
    refine o_iadd (n := 175) rfl rfl (by omega) ?_
    refine o_iload (n := 177) rfl rfl rfl ?_
    refine o_iadd (n := 178) rfl rfl (by omega) ?_
    refine o_aload_n (n := 179) rfl rfl rfl ?_
    refine of_8_3 (n := 182) hS rfl rfl ?_
    refine o_iload (n := 184) rfl rfl rfl ?_
    refine o_iald (n := 185) (L := 60) rfl rfl rfl rfl rfl (by omega) (by omega) ?_
    refine o_iast (n := 186) (L := 240) rfl rfl rfl rfl rfl (by omega) (by omega) ?_
    refine o_iinc_6 (n := 189) rfl rfl rfl (by omega) ?_
    refine o_goto (t := 157) rfl rfl ?_
    refine ih (k + 1) _ (by omega) (by omega) (fun q z y => (gset_kf z).trans (fr q z y)) (fun x x0 x1 => (gset_k rfl).trans (u2 x x0 x1)) (fun x => ?_)
    by_cases e : x = 60 * t + j + k
    · rw [e, gset_at, cif_t (by omega), u2 k (by omega) (by omega), show 60 * t + j + k - (60 * t + j) = k by omega]
    · rw [gset_s e, u3 x]; exact cif_congr (by omega)
theorem l8_mv1 (hS : am_St r) (a0 : 0 ≤ a) (a1 : a < 4) (t0 : 0 ≤ t) (t1 : t < 4) (i0 : 0 ≤ i) (j0 : 0 ≤ j) (n0 : 0 ≤ n) (i1 : i + n ≤ 60) (j1 : j + n ≤ 60) : ∀ (m : Nat) (k : Int) (g1 : GI), (0 ≤ k) → (k + m = n) → (∀ k, k ≠ 20 → g1 k = h k) → (∀ x, 0 ≤ x → x < k → g1 20 0 x = h 19 0 (60 * a + i + x)) → Ou 120 120 [vR 8 0, vI a, vI i, vI t, vI j, vI n, vI k] [] g1 r (fun v g2 r2 => v = some (vI 1) ∧ r2 = r ∧ (∀ k, k ≠ 19 → k ≠ 20 → g2 k = h k) ∧ ∀ x, g2 19 0 x = cif (60 * t + j ≤ x ∧ x < 60 * t + j + n) (h 19 0 (60 * a + i + (x - (60 * t + j)))) (h 19 0 x)) := by
  intro m
  induction m with
  | zero =>
    intro k g1 u0 u1 fr u2
    refine o_iload (n := 122) rfl rfl rfl ?_
    refine o_iload (n := 124) rfl rfl rfl ?_
    refine o_icmp_ge (n := 127) (t := 154) rfl rfl rfl (fun h124 => ?_) (fun h124 => (by exfalso; omega))
    refine o_iconst (n := 155) rfl rfl ?_
    refine o_istore_6 (n := 157) rfl rfl rfl ?_
    exact l8_mv2 hS a0 a1 t0 t1 i0 j0 n0 i1 j1 n.toNat 0 g1 (by omega) (by omega) (fun q _ y => fr q y) (fun x x0 x1 => u2 x x0 (by omega)) (fun x => by rw [cif_f (by omega), fr 19 (by decide)])
  | succ m ih =>
    intro k g1 u0 u1 fr u2
    refine o_iload (n := 122) rfl rfl rfl ?_
    refine o_iload (n := 124) rfl rfl rfl ?_
    refine o_icmp_ge (n := 127) (t := 154) rfl rfl rfl (fun h124 => (by exfalso; omega)) (fun h124 => ?_)
    refine o_aload_n (n := 128) rfl rfl rfl ?_
    refine of_8_3 (n := 131) hS rfl rfl ?_
    refine o_iload (n := 133) rfl rfl rfl ?_
    refine o_aload_n (n := 134) rfl rfl rfl ?_
    refine of_8_2 (n := 137) hS rfl rfl ?_
    refine o_bipush (n := 139) rfl rfl ?_
    refine o_iload_n (n := 140) rfl rfl rfl ?_
    refine o_imul (n := 141) rfl rfl (by omega) ?_
    refine o_iload_n (n := 142) rfl rfl rfl ?_
    refine o_iadd (n := 143) rfl rfl (by omega) ?_
    refine o_iload (n := 145) rfl rfl rfl ?_
    refine o_iadd (n := 146) rfl rfl (by omega) ?_
    refine o_iald (n := 147) (L := 240) rfl rfl rfl rfl rfl (by omega) (by omega) ?_
    refine o_iast (n := 148) (L := 60) rfl rfl rfl rfl rfl (by omega) (by omega) ?_
    refine o_iinc_6 (n := 151) rfl rfl rfl (by omega) ?_
    refine o_goto (t := 120) rfl rfl ?_
    refine ih (k + 1) _ (by omega) (by omega) (fun q z => (gset_kf z).trans (fr q z)) (fun x x0 x1 => ?_)
    by_cases e : x = k
    · rw [e, gset_at, fr 19 (by decide)]
    · rw [gset_s e]; exact u2 x x0 (by omega)
end CP
theorem p_copy (a : Int) (i : Int) (t : Int) (j : Int) (n : Int) (hi : inI i) (hj : inI j) (hn : inI n) : Pr 77 120 [vI a, vI i, vI t, vI j, vI n] := by
  intro c g r hc0 hc1 hI
  have hI' := hI
  obtain ⟨⟨hS, hR, h6, hP⟩, hsg, htx, hru, hwd, hnw, hst, hsh, hla⟩ := hI'
  show Ou 77 0 [vR 7 0, vI a, vI i, vI t, vI j, vI n, vN, vN] [] g r _
  obtain ⟨sg1, sg2, sg3⟩ := hI.2.1
  obtain ⟨tx1, tx2, tx3, tx4⟩ := hI.2.2.1
  have ru0 : g 7 0 10 = g 8 0 8 := hI.2.2.2.1.1.1
  have ru1 := hI.2.2.2.1.2.1.1
  have wd0 : g 1 0 1 = g 8 0 14 := hI.2.2.2.2.1.1.1
  have wd1 := hI.2.2.2.2.1.2.1.1
  have wd2 := hI.2.2.2.2.1.2.2
  have nw0 : g 0 0 0 = g 27 0 8 := hI.2.2.2.2.2.1.1.1
  have nw1 : g 0 0 1 = g 28 0 8 := hI.2.2.2.2.2.1.1.2.1
  have nw2 := hI.2.2.2.2.2.1.2.1
  have nw3 := hI.2.2.2.2.2.1.2.2.1
  have st0 := hI.2.2.2.2.2.2.1.1
  have st1 := hI.2.2.2.2.2.2.1.2.1
  have st2 := hI.2.2.2.2.2.2.1.2.2.1
  have la0 : g 7 0 13 = g 8 0 4 := hI.2.2.2.2.2.2.2.2
  have sh_a : (0 ≤ a ∧ a < 4) → (g 3 a 0 = g 17 0 a ∧ -1 ≤ g 17 0 a ∧ g 17 0 a ≤ 2 ∧ g 3 a 1 = g 18 0 a ∧ 0 ≤ g 18 0 a ∧ g 18 0 a ≤ 60) := fun z => by
    have := hsh a z.1 z.2
    exact ⟨this.1.1, this.1.2.1, this.1.2.2, this.2.1.1, this.2.1.2.1, this.2.1.2.2⟩
  have sh_t : (0 ≤ t ∧ t < 4) → (g 3 t 0 = g 17 0 t ∧ -1 ≤ g 17 0 t ∧ g 17 0 t ≤ 2 ∧ g 3 t 1 = g 18 0 t ∧ 0 ≤ g 18 0 t ∧ g 18 0 t ≤ 60) := fun z => by
    have := hsh t z.1 z.2
    exact ⟨this.1.1, this.1.2.1, this.1.2.2, this.2.1.1, this.2.1.2.1, this.2.1.2.2⟩
  refine o_iload_n (n := 1) rfl rfl rfl ?_
  refine o_invsi (n := 4) rfl rfl rfl rfl rfl rfl (c7_isSheet _) ?_
  refine o_ifb_eq (n := 7) (t := 14) rfl rfl rfl (fun q4 => ?_) (fun q4 => ?_)
  · refine o_bipush (n := 16) rfl rfl ?_
    refine o_iret rfl rfl ?_
    refine q8_of (g := g) (r := r) (fun k hk => by first | rfl | exact gset_kf (isM_ne hk (by decide)) | exact (gset_kf (isM_ne hk (by decide))).trans (gset_kf (isM_ne hk (by decide))) | exact (gset_kf (isM_ne hk (by decide))).trans ((gset_kf (isM_ne hk (by decide))).trans (gset_kf (isM_ne hk (by decide)))) | exact (gset_kf (isM_ne hk (by decide))).trans ((gset_kf (isM_ne hk (by decide))).trans ((gset_kf (isM_ne hk (by decide))).trans (gset_kf (isM_ne hk (by decide)))))) hI (fun h hh hJ => ?_)
    show Ou 120 0 [vR 8 0, vI a, vI i, vI t, vI j, vI n, vN] [] h _ _
    obtain ⟨jsg1, jsg2, jsg3⟩ := hJ.2.1
    obtain ⟨jtx1, jtx2, jtx3, jtx4⟩ := hJ.2.2.1
    have jru0 : g 7 0 10 = h 8 0 8 := hJ.2.2.2.1.1.1
    have jru1 := hJ.2.2.2.1.2.1.1
    have jwd0 : g 1 0 1 = h 8 0 14 := hJ.2.2.2.2.1.1.1
    have jwd1 := hJ.2.2.2.2.1.2.1.1
    have jwd2 := hJ.2.2.2.2.1.2.2
    have jnw0 : g 0 0 0 = h 27 0 8 := hJ.2.2.2.2.2.1.1.1
    have jnw1 : g 0 0 1 = h 28 0 8 := hJ.2.2.2.2.2.1.1.2.1
    have jnw2 := hJ.2.2.2.2.2.1.2.1
    have jnw3 := hJ.2.2.2.2.2.1.2.2.1
    have jst0 := hJ.2.2.2.2.2.2.1.1
    have jst1 := hJ.2.2.2.2.2.2.1.2.1
    have jst2 := hJ.2.2.2.2.2.2.1.2.2.1
    have jla0 : g 7 0 13 = h 8 0 4 := hJ.2.2.2.2.2.2.2.2
    have jsh_a : (0 ≤ a ∧ a < 4) → (g 3 a 0 = h 17 0 a ∧ -1 ≤ h 17 0 a ∧ h 17 0 a ≤ 2 ∧ g 3 a 1 = h 18 0 a ∧ 0 ≤ h 18 0 a ∧ h 18 0 a ≤ 60) := fun z => by
      have := hJ.2.2.2.2.2.2.2.1 a z.1 z.2
      exact ⟨this.1.1, this.1.2.1, this.1.2.2, this.2.1.1, this.2.1.2.1, this.2.1.2.2⟩
    have jsh_t : (0 ≤ t ∧ t < 4) → (g 3 t 0 = h 17 0 t ∧ -1 ≤ h 17 0 t ∧ h 17 0 t ≤ 2 ∧ g 3 t 1 = h 18 0 t ∧ 0 ≤ h 18 0 t ∧ h 18 0 t ≤ 60) := fun z => by
      have := hJ.2.2.2.2.2.2.2.1 t z.1 z.2
      exact ⟨this.1.1, this.1.2.1, this.1.2.2, this.2.1.1, this.2.1.2.1, this.2.1.2.2⟩
    refine o_iload_n (n := 1) rfl rfl rfl ?_
    refine o_invsi (n := 4) rfl rfl rfl rfl rfl rfl (c8_isSheet _) ?_
    refine o_ifb_eq (n := 7) (t := 14) rfl rfl rfl (fun k4 => ?_) (fun k4 => ?_)
    · refine o_bipush (n := 16) rfl rfl ?_
      refine o_iret rfl rfl ?_
      first
        | (exfalso; omega; done)
        | (refine ⟨rfl, ?_, ?_, ?_⟩
           · subst hh; exact ⟨⟨hS, hR, h6, hP⟩, Isg_c (g := g) (h := g) rfl rfl hsg, Itx_c (g := g) (h := g) rfl rfl rfl rfl htx, Iru_c (g := g) (h := g) (r := r) (by omega) hR (fun _ _ _ => rfl) (fun _ _ _ => rfl) rfl rfl rfl rfl rfl rfl rfl rfl hru, Iwd_c (g := g) (h := g) (by omega) rfl rfl rfl rfl rfl rfl hwd, Inw_c (g := g) (h := g) rfl rfl rfl rfl (fun _ _ _ => rfl) hnw, Ist_c (g := g) (h := g) (r := r) hR rfl rfl (fun _ _ _ => rfl) (fun _ _ _ => rfl) rfl rfl rfl rfl (fun _ _ => rfl) (fun _ _ => rfl) (fun _ _ => rfl) rfl rfl rfl hst, Ish_c (g := g) (h := g) rfl rfl rfl rfl rfl hsh, Ila_c (g := g) (h := g) rfl rfl hla⟩
           · subst hh; rfl
           · subst hh; rfl)
        | (refine ⟨congrArg (fun z => some (vI z)) ?_, ?_, ?_, ?_⟩
           · omega
           · subst hh; exact ⟨⟨hS, hR, h6, hP⟩, Isg_c (g := g) (h := g) rfl rfl hsg, Itx_c (g := g) (h := g) rfl rfl rfl rfl htx, Iru_c (g := g) (h := g) (r := r) (by omega) hR (fun _ _ _ => rfl) (fun _ _ _ => rfl) rfl rfl rfl rfl rfl rfl rfl rfl hru, Iwd_c (g := g) (h := g) (by omega) rfl rfl rfl rfl rfl rfl hwd, Inw_c (g := g) (h := g) rfl rfl rfl rfl (fun _ _ _ => rfl) hnw, Ist_c (g := g) (h := g) (r := r) hR rfl rfl (fun _ _ _ => rfl) (fun _ _ _ => rfl) rfl rfl rfl rfl (fun _ _ => rfl) (fun _ _ => rfl) (fun _ _ => rfl) rfl rfl rfl hst, Ish_c (g := g) (h := g) rfl rfl rfl rfl rfl hsh, Ila_c (g := g) (h := g) rfl rfl hla⟩
           · subst hh; rfl
           · subst hh; rfl)
    · refine o_iload_n (n := 8) rfl rfl rfl ?_
      refine o_invsi (n := 11) rfl rfl rfl rfl rfl rfl (c8_isSheet _) ?_
      refine o_ifb_ne (n := 14) (t := 17) rfl rfl rfl (fun k11 => ?_) (fun k11 => ?_)
      · refine o_aload_n (n := 18) rfl rfl rfl ?_
        refine of_8_0 (n := 21) hS rfl rfl ?_
        refine o_iload_n (n := 22) rfl rfl rfl ?_
        refine o_iald (n := 23) (L := 4) rfl rfl rfl rfl rfl (by omega) (by omega) ?_
        refine o_if_lt (n := 26) (t := 35) rfl rfl rfl (fun k23 => ?_) (fun k23 => ?_)
        · refine o_aload_n (n := 36) rfl rfl rfl ?_
          refine o_iconst (n := 37) rfl rfl ?_
          refine o_invi (n := 40) rfl rfl rfl rfl rfl rfl rfl rfl rfl rfl (c8_finds _ (by omega) (by omega)) ?_
          refine o_iret rfl rfl ?_
          first
            | (exfalso; omega; done)
            | (refine ⟨rfl, ?_, ?_, ?_⟩
               · subst hh; exact ⟨⟨hS, hR, h6, hP⟩, Isg_c (g := g) (h := g) rfl rfl hsg, Itx_c (g := g) (h := g) rfl rfl rfl rfl htx, Iru_c (g := g) (h := g) (r := r) (by omega) hR (fun _ _ _ => rfl) (fun _ _ _ => rfl) rfl rfl rfl rfl rfl rfl rfl rfl hru, Iwd_c (g := g) (h := g) (by omega) rfl rfl rfl rfl rfl rfl hwd, Inw_c (g := g) (h := g) rfl rfl rfl rfl (fun _ _ _ => rfl) hnw, Ist_c (g := g) (h := g) (r := r) hR rfl rfl (fun _ _ _ => rfl) (fun _ _ _ => rfl) rfl rfl rfl rfl (fun _ _ => rfl) (fun _ _ => rfl) (fun _ _ => rfl) rfl rfl rfl hst, Ish_c (g := g) (h := g) rfl rfl rfl rfl rfl hsh, rfl⟩
               · subst hh; rfl
               · subst hh; rfl)
            | (refine ⟨congrArg (fun z => some (vI z)) ?_, ?_, ?_, ?_⟩
               · omega
               · subst hh; exact ⟨⟨hS, hR, h6, hP⟩, Isg_c (g := g) (h := g) rfl rfl hsg, Itx_c (g := g) (h := g) rfl rfl rfl rfl htx, Iru_c (g := g) (h := g) (r := r) (by omega) hR (fun _ _ _ => rfl) (fun _ _ _ => rfl) rfl rfl rfl rfl rfl rfl rfl rfl hru, Iwd_c (g := g) (h := g) (by omega) rfl rfl rfl rfl rfl rfl hwd, Inw_c (g := g) (h := g) rfl rfl rfl rfl (fun _ _ _ => rfl) hnw, Ist_c (g := g) (h := g) (r := r) hR rfl rfl (fun _ _ _ => rfl) (fun _ _ _ => rfl) rfl rfl rfl rfl (fun _ _ => rfl) (fun _ _ => rfl) (fun _ _ => rfl) rfl rfl rfl hst, Ish_c (g := g) (h := g) rfl rfl rfl rfl rfl hsh, rfl⟩
               · subst hh; rfl
               · subst hh; rfl)
        · refine o_aload_n (n := 27) rfl rfl rfl ?_
          refine of_8_0 (n := 30) hS rfl rfl ?_
          refine o_iload_n (n := 31) rfl rfl rfl ?_
          refine o_iald (n := 32) (L := 4) rfl rfl rfl rfl rfl (by omega) (by omega) ?_
          refine o_if_ge (n := 35) (t := 41) rfl rfl rfl (fun k32 => ?_) (fun k32 => ?_)
          · refine o_aload_n (n := 42) rfl rfl rfl ?_
            refine of_8_0 (n := 45) hS rfl rfl ?_
            refine o_iload_n (n := 46) rfl rfl rfl ?_
            refine o_iald (n := 47) (L := 4) rfl rfl rfl rfl rfl (by omega) (by omega) ?_
            refine o_aload_n (n := 48) rfl rfl rfl ?_
            refine of_8_0 (n := 51) hS rfl rfl ?_
            refine o_iload_n (n := 52) rfl rfl rfl ?_
            refine o_iald (n := 53) (L := 4) rfl rfl rfl rfl rfl (by omega) (by omega) ?_
            refine o_icmp_eq (n := 56) (t := 62) rfl rfl rfl (fun k53 => ?_) (fun k53 => ?_)
            · refine o_iload_n (n := 63) rfl rfl rfl ?_
              refine o_if_lt (n := 66) (t := 111) rfl rfl rfl (fun k63 => ?_) (fun k63 => ?_)
              · refine o_aload_n (n := 112) rfl rfl rfl ?_
                refine o_iconst (n := 113) rfl rfl ?_
                refine o_invi (n := 116) rfl rfl rfl rfl rfl rfl rfl rfl rfl rfl (c8_finds _ (by omega) (by omega)) ?_
                refine o_iret rfl rfl ?_
                first
                  | (exfalso; omega; done)
                  | (refine ⟨rfl, ?_, ?_, ?_⟩
                     · subst hh; exact ⟨⟨hS, hR, h6, hP⟩, Isg_c (g := g) (h := g) rfl rfl hsg, Itx_c (g := g) (h := g) rfl rfl rfl rfl htx, Iru_c (g := g) (h := g) (r := r) (by omega) hR (fun _ _ _ => rfl) (fun _ _ _ => rfl) rfl rfl rfl rfl rfl rfl rfl rfl hru, Iwd_c (g := g) (h := g) (by omega) rfl rfl rfl rfl rfl rfl hwd, Inw_c (g := g) (h := g) rfl rfl rfl rfl (fun _ _ _ => rfl) hnw, Ist_c (g := g) (h := g) (r := r) hR rfl rfl (fun _ _ _ => rfl) (fun _ _ _ => rfl) rfl rfl rfl rfl (fun _ _ => rfl) (fun _ _ => rfl) (fun _ _ => rfl) rfl rfl rfl hst, Ish_c (g := g) (h := g) rfl rfl rfl rfl rfl hsh, rfl⟩
                     · subst hh; rfl
                     · subst hh; rfl)
                  | (refine ⟨congrArg (fun z => some (vI z)) ?_, ?_, ?_, ?_⟩
                     · omega
                     · subst hh; exact ⟨⟨hS, hR, h6, hP⟩, Isg_c (g := g) (h := g) rfl rfl hsg, Itx_c (g := g) (h := g) rfl rfl rfl rfl htx, Iru_c (g := g) (h := g) (r := r) (by omega) hR (fun _ _ _ => rfl) (fun _ _ _ => rfl) rfl rfl rfl rfl rfl rfl rfl rfl hru, Iwd_c (g := g) (h := g) (by omega) rfl rfl rfl rfl rfl rfl hwd, Inw_c (g := g) (h := g) rfl rfl rfl rfl (fun _ _ _ => rfl) hnw, Ist_c (g := g) (h := g) (r := r) hR rfl rfl (fun _ _ _ => rfl) (fun _ _ _ => rfl) rfl rfl rfl rfl (fun _ _ => rfl) (fun _ _ => rfl) (fun _ _ => rfl) rfl rfl rfl hst, Ish_c (g := g) (h := g) rfl rfl rfl rfl rfl hsh, rfl⟩
                     · subst hh; rfl
                     · subst hh; rfl)
              · refine o_iload (n := 68) rfl rfl rfl ?_
                refine o_if_lt (n := 71) (t := 111) rfl rfl rfl (fun k68 => ?_) (fun k68 => ?_)
                · refine o_aload_n (n := 112) rfl rfl rfl ?_
                  refine o_iconst (n := 113) rfl rfl ?_
                  refine o_invi (n := 116) rfl rfl rfl rfl rfl rfl rfl rfl rfl rfl (c8_finds _ (by omega) (by omega)) ?_
                  refine o_iret rfl rfl ?_
                  first
                    | (exfalso; omega; done)
                    | (refine ⟨rfl, ?_, ?_, ?_⟩
                       · subst hh; exact ⟨⟨hS, hR, h6, hP⟩, Isg_c (g := g) (h := g) rfl rfl hsg, Itx_c (g := g) (h := g) rfl rfl rfl rfl htx, Iru_c (g := g) (h := g) (r := r) (by omega) hR (fun _ _ _ => rfl) (fun _ _ _ => rfl) rfl rfl rfl rfl rfl rfl rfl rfl hru, Iwd_c (g := g) (h := g) (by omega) rfl rfl rfl rfl rfl rfl hwd, Inw_c (g := g) (h := g) rfl rfl rfl rfl (fun _ _ _ => rfl) hnw, Ist_c (g := g) (h := g) (r := r) hR rfl rfl (fun _ _ _ => rfl) (fun _ _ _ => rfl) rfl rfl rfl rfl (fun _ _ => rfl) (fun _ _ => rfl) (fun _ _ => rfl) rfl rfl rfl hst, Ish_c (g := g) (h := g) rfl rfl rfl rfl rfl hsh, rfl⟩
                       · subst hh; rfl
                       · subst hh; rfl)
                    | (refine ⟨congrArg (fun z => some (vI z)) ?_, ?_, ?_, ?_⟩
                       · omega
                       · subst hh; exact ⟨⟨hS, hR, h6, hP⟩, Isg_c (g := g) (h := g) rfl rfl hsg, Itx_c (g := g) (h := g) rfl rfl rfl rfl htx, Iru_c (g := g) (h := g) (r := r) (by omega) hR (fun _ _ _ => rfl) (fun _ _ _ => rfl) rfl rfl rfl rfl rfl rfl rfl rfl hru, Iwd_c (g := g) (h := g) (by omega) rfl rfl rfl rfl rfl rfl hwd, Inw_c (g := g) (h := g) rfl rfl rfl rfl (fun _ _ _ => rfl) hnw, Ist_c (g := g) (h := g) (r := r) hR rfl rfl (fun _ _ _ => rfl) (fun _ _ _ => rfl) rfl rfl rfl rfl (fun _ _ => rfl) (fun _ _ => rfl) (fun _ _ => rfl) rfl rfl rfl hst, Ish_c (g := g) (h := g) rfl rfl rfl rfl rfl hsh, rfl⟩
                       · subst hh; rfl
                       · subst hh; rfl)
                · refine o_iload (n := 73) rfl rfl rfl ?_
                  refine o_if_lt (n := 76) (t := 111) rfl rfl rfl (fun k73 => ?_) (fun k73 => ?_)
                  · refine o_aload_n (n := 112) rfl rfl rfl ?_
                    refine o_iconst (n := 113) rfl rfl ?_
                    refine o_invi (n := 116) rfl rfl rfl rfl rfl rfl rfl rfl rfl rfl (c8_finds _ (by omega) (by omega)) ?_
                    refine o_iret rfl rfl ?_
                    first
                      | (exfalso; omega; done)
                      | (refine ⟨rfl, ?_, ?_, ?_⟩
                         · subst hh; exact ⟨⟨hS, hR, h6, hP⟩, Isg_c (g := g) (h := g) rfl rfl hsg, Itx_c (g := g) (h := g) rfl rfl rfl rfl htx, Iru_c (g := g) (h := g) (r := r) (by omega) hR (fun _ _ _ => rfl) (fun _ _ _ => rfl) rfl rfl rfl rfl rfl rfl rfl rfl hru, Iwd_c (g := g) (h := g) (by omega) rfl rfl rfl rfl rfl rfl hwd, Inw_c (g := g) (h := g) rfl rfl rfl rfl (fun _ _ _ => rfl) hnw, Ist_c (g := g) (h := g) (r := r) hR rfl rfl (fun _ _ _ => rfl) (fun _ _ _ => rfl) rfl rfl rfl rfl (fun _ _ => rfl) (fun _ _ => rfl) (fun _ _ => rfl) rfl rfl rfl hst, Ish_c (g := g) (h := g) rfl rfl rfl rfl rfl hsh, rfl⟩
                         · subst hh; rfl
                         · subst hh; rfl)
                      | (refine ⟨congrArg (fun z => some (vI z)) ?_, ?_, ?_, ?_⟩
                         · omega
                         · subst hh; exact ⟨⟨hS, hR, h6, hP⟩, Isg_c (g := g) (h := g) rfl rfl hsg, Itx_c (g := g) (h := g) rfl rfl rfl rfl htx, Iru_c (g := g) (h := g) (r := r) (by omega) hR (fun _ _ _ => rfl) (fun _ _ _ => rfl) rfl rfl rfl rfl rfl rfl rfl rfl hru, Iwd_c (g := g) (h := g) (by omega) rfl rfl rfl rfl rfl rfl hwd, Inw_c (g := g) (h := g) rfl rfl rfl rfl (fun _ _ _ => rfl) hnw, Ist_c (g := g) (h := g) (r := r) hR rfl rfl (fun _ _ _ => rfl) (fun _ _ _ => rfl) rfl rfl rfl rfl (fun _ _ => rfl) (fun _ _ => rfl) (fun _ _ => rfl) rfl rfl rfl hst, Ish_c (g := g) (h := g) rfl rfl rfl rfl rfl hsh, rfl⟩
                         · subst hh; rfl
                         · subst hh; rfl)
                  · refine o_iload_n (n := 77) rfl rfl rfl ?_
                    refine o_i2l (n := 78) rfl rfl ?_
                    refine o_iload (n := 80) rfl rfl rfl ?_
                    refine o_i2l (n := 81) rfl rfl ?_
                    refine o_laddN (n := 82) rfl rfl (by omega) ?_
                    refine o_aload_n (n := 83) rfl rfl rfl ?_
                    refine of_8_1 (n := 86) hS rfl rfl ?_
                    refine o_iload_n (n := 87) rfl rfl rfl ?_
                    refine o_iald (n := 88) (L := 4) rfl rfl rfl rfl rfl (by omega) (by omega) ?_
                    refine o_i2l (n := 89) rfl rfl ?_
                    refine o_lcmp_gt (n := 93) (t := 111) rfl rfl rfl rfl (fun k89 => ?_) (fun k89 => ?_)
                    · refine o_aload_n (n := 112) rfl rfl rfl ?_
                      refine o_iconst (n := 113) rfl rfl ?_
                      refine o_invi (n := 116) rfl rfl rfl rfl rfl rfl rfl rfl rfl rfl (c8_finds _ (by omega) (by omega)) ?_
                      refine o_iret rfl rfl ?_
                      first
                        | (exfalso; omega; done)
                        | (refine ⟨rfl, ?_, ?_, ?_⟩
                           · subst hh; exact ⟨⟨hS, hR, h6, hP⟩, Isg_c (g := g) (h := g) rfl rfl hsg, Itx_c (g := g) (h := g) rfl rfl rfl rfl htx, Iru_c (g := g) (h := g) (r := r) (by omega) hR (fun _ _ _ => rfl) (fun _ _ _ => rfl) rfl rfl rfl rfl rfl rfl rfl rfl hru, Iwd_c (g := g) (h := g) (by omega) rfl rfl rfl rfl rfl rfl hwd, Inw_c (g := g) (h := g) rfl rfl rfl rfl (fun _ _ _ => rfl) hnw, Ist_c (g := g) (h := g) (r := r) hR rfl rfl (fun _ _ _ => rfl) (fun _ _ _ => rfl) rfl rfl rfl rfl (fun _ _ => rfl) (fun _ _ => rfl) (fun _ _ => rfl) rfl rfl rfl hst, Ish_c (g := g) (h := g) rfl rfl rfl rfl rfl hsh, rfl⟩
                           · subst hh; rfl
                           · subst hh; rfl)
                        | (refine ⟨congrArg (fun z => some (vI z)) ?_, ?_, ?_, ?_⟩
                           · omega
                           · subst hh; exact ⟨⟨hS, hR, h6, hP⟩, Isg_c (g := g) (h := g) rfl rfl hsg, Itx_c (g := g) (h := g) rfl rfl rfl rfl htx, Iru_c (g := g) (h := g) (r := r) (by omega) hR (fun _ _ _ => rfl) (fun _ _ _ => rfl) rfl rfl rfl rfl rfl rfl rfl rfl hru, Iwd_c (g := g) (h := g) (by omega) rfl rfl rfl rfl rfl rfl hwd, Inw_c (g := g) (h := g) rfl rfl rfl rfl (fun _ _ _ => rfl) hnw, Ist_c (g := g) (h := g) (r := r) hR rfl rfl (fun _ _ _ => rfl) (fun _ _ _ => rfl) rfl rfl rfl rfl (fun _ _ => rfl) (fun _ _ => rfl) (fun _ _ => rfl) rfl rfl rfl hst, Ish_c (g := g) (h := g) rfl rfl rfl rfl rfl hsh, rfl⟩
                           · subst hh; rfl
                           · subst hh; rfl)
                    · refine o_iload (n := 95) rfl rfl rfl ?_
                      refine o_i2l (n := 96) rfl rfl ?_
                      refine o_iload (n := 98) rfl rfl rfl ?_
                      refine o_i2l (n := 99) rfl rfl ?_
                      refine o_laddN (n := 100) rfl rfl (by omega) ?_
                      refine o_aload_n (n := 101) rfl rfl rfl ?_
                      refine of_8_1 (n := 104) hS rfl rfl ?_
                      refine o_iload_n (n := 105) rfl rfl rfl ?_
                      refine o_iald (n := 106) (L := 4) rfl rfl rfl rfl rfl (by omega) (by omega) ?_
                      refine o_i2l (n := 107) rfl rfl ?_
                      refine o_lcmp_le (n := 111) (t := 117) rfl rfl rfl rfl (fun k107 => ?_) (fun k107 => ?_)
                      · refine o_iconst (n := 118) rfl rfl ?_
                        refine o_istore_6 (n := 120) rfl rfl rfl ?_
                        exfalso; omega
                      · refine o_aload_n (n := 112) rfl rfl rfl ?_
                        refine o_iconst (n := 113) rfl rfl ?_
                        refine o_invi (n := 116) rfl rfl rfl rfl rfl rfl rfl rfl rfl rfl (c8_finds _ (by omega) (by omega)) ?_
                        refine o_iret rfl rfl ?_
                        first
                          | (exfalso; omega; done)
                          | (refine ⟨rfl, ?_, ?_, ?_⟩
                             · subst hh; exact ⟨⟨hS, hR, h6, hP⟩, Isg_c (g := g) (h := g) rfl rfl hsg, Itx_c (g := g) (h := g) rfl rfl rfl rfl htx, Iru_c (g := g) (h := g) (r := r) (by omega) hR (fun _ _ _ => rfl) (fun _ _ _ => rfl) rfl rfl rfl rfl rfl rfl rfl rfl hru, Iwd_c (g := g) (h := g) (by omega) rfl rfl rfl rfl rfl rfl hwd, Inw_c (g := g) (h := g) rfl rfl rfl rfl (fun _ _ _ => rfl) hnw, Ist_c (g := g) (h := g) (r := r) hR rfl rfl (fun _ _ _ => rfl) (fun _ _ _ => rfl) rfl rfl rfl rfl (fun _ _ => rfl) (fun _ _ => rfl) (fun _ _ => rfl) rfl rfl rfl hst, Ish_c (g := g) (h := g) rfl rfl rfl rfl rfl hsh, rfl⟩
                             · subst hh; rfl
                             · subst hh; rfl)
                          | (refine ⟨congrArg (fun z => some (vI z)) ?_, ?_, ?_, ?_⟩
                             · omega
                             · subst hh; exact ⟨⟨hS, hR, h6, hP⟩, Isg_c (g := g) (h := g) rfl rfl hsg, Itx_c (g := g) (h := g) rfl rfl rfl rfl htx, Iru_c (g := g) (h := g) (r := r) (by omega) hR (fun _ _ _ => rfl) (fun _ _ _ => rfl) rfl rfl rfl rfl rfl rfl rfl rfl hru, Iwd_c (g := g) (h := g) (by omega) rfl rfl rfl rfl rfl rfl hwd, Inw_c (g := g) (h := g) rfl rfl rfl rfl (fun _ _ _ => rfl) hnw, Ist_c (g := g) (h := g) (r := r) hR rfl rfl (fun _ _ _ => rfl) (fun _ _ _ => rfl) rfl rfl rfl rfl (fun _ _ => rfl) (fun _ _ => rfl) (fun _ _ => rfl) rfl rfl rfl hst, Ish_c (g := g) (h := g) rfl rfl rfl rfl rfl hsh, rfl⟩
                             · subst hh; rfl
                             · subst hh; rfl)
            · refine o_aload_n (n := 57) rfl rfl rfl ?_
              refine o_iconst (n := 58) rfl rfl ?_
              refine o_invi (n := 61) rfl rfl rfl rfl rfl rfl rfl rfl rfl rfl (c8_finds _ (by omega) (by omega)) ?_
              refine o_iret rfl rfl ?_
              first
                | (exfalso; omega; done)
                | (refine ⟨rfl, ?_, ?_, ?_⟩
                   · subst hh; exact ⟨⟨hS, hR, h6, hP⟩, Isg_c (g := g) (h := g) rfl rfl hsg, Itx_c (g := g) (h := g) rfl rfl rfl rfl htx, Iru_c (g := g) (h := g) (r := r) (by omega) hR (fun _ _ _ => rfl) (fun _ _ _ => rfl) rfl rfl rfl rfl rfl rfl rfl rfl hru, Iwd_c (g := g) (h := g) (by omega) rfl rfl rfl rfl rfl rfl hwd, Inw_c (g := g) (h := g) rfl rfl rfl rfl (fun _ _ _ => rfl) hnw, Ist_c (g := g) (h := g) (r := r) hR rfl rfl (fun _ _ _ => rfl) (fun _ _ _ => rfl) rfl rfl rfl rfl (fun _ _ => rfl) (fun _ _ => rfl) (fun _ _ => rfl) rfl rfl rfl hst, Ish_c (g := g) (h := g) rfl rfl rfl rfl rfl hsh, rfl⟩
                   · subst hh; rfl
                   · subst hh; rfl)
                | (refine ⟨congrArg (fun z => some (vI z)) ?_, ?_, ?_, ?_⟩
                   · omega
                   · subst hh; exact ⟨⟨hS, hR, h6, hP⟩, Isg_c (g := g) (h := g) rfl rfl hsg, Itx_c (g := g) (h := g) rfl rfl rfl rfl htx, Iru_c (g := g) (h := g) (r := r) (by omega) hR (fun _ _ _ => rfl) (fun _ _ _ => rfl) rfl rfl rfl rfl rfl rfl rfl rfl hru, Iwd_c (g := g) (h := g) (by omega) rfl rfl rfl rfl rfl rfl hwd, Inw_c (g := g) (h := g) rfl rfl rfl rfl (fun _ _ _ => rfl) hnw, Ist_c (g := g) (h := g) (r := r) hR rfl rfl (fun _ _ _ => rfl) (fun _ _ _ => rfl) rfl rfl rfl rfl (fun _ _ => rfl) (fun _ _ => rfl) (fun _ _ => rfl) rfl rfl rfl hst, Ish_c (g := g) (h := g) rfl rfl rfl rfl rfl hsh, rfl⟩
                   · subst hh; rfl
                   · subst hh; rfl)
          · refine o_aload_n (n := 36) rfl rfl rfl ?_
            refine o_iconst (n := 37) rfl rfl ?_
            refine o_invi (n := 40) rfl rfl rfl rfl rfl rfl rfl rfl rfl rfl (c8_finds _ (by omega) (by omega)) ?_
            refine o_iret rfl rfl ?_
            first
              | (exfalso; omega; done)
              | (refine ⟨rfl, ?_, ?_, ?_⟩
                 · subst hh; exact ⟨⟨hS, hR, h6, hP⟩, Isg_c (g := g) (h := g) rfl rfl hsg, Itx_c (g := g) (h := g) rfl rfl rfl rfl htx, Iru_c (g := g) (h := g) (r := r) (by omega) hR (fun _ _ _ => rfl) (fun _ _ _ => rfl) rfl rfl rfl rfl rfl rfl rfl rfl hru, Iwd_c (g := g) (h := g) (by omega) rfl rfl rfl rfl rfl rfl hwd, Inw_c (g := g) (h := g) rfl rfl rfl rfl (fun _ _ _ => rfl) hnw, Ist_c (g := g) (h := g) (r := r) hR rfl rfl (fun _ _ _ => rfl) (fun _ _ _ => rfl) rfl rfl rfl rfl (fun _ _ => rfl) (fun _ _ => rfl) (fun _ _ => rfl) rfl rfl rfl hst, Ish_c (g := g) (h := g) rfl rfl rfl rfl rfl hsh, rfl⟩
                 · subst hh; rfl
                 · subst hh; rfl)
              | (refine ⟨congrArg (fun z => some (vI z)) ?_, ?_, ?_, ?_⟩
                 · omega
                 · subst hh; exact ⟨⟨hS, hR, h6, hP⟩, Isg_c (g := g) (h := g) rfl rfl hsg, Itx_c (g := g) (h := g) rfl rfl rfl rfl htx, Iru_c (g := g) (h := g) (r := r) (by omega) hR (fun _ _ _ => rfl) (fun _ _ _ => rfl) rfl rfl rfl rfl rfl rfl rfl rfl hru, Iwd_c (g := g) (h := g) (by omega) rfl rfl rfl rfl rfl rfl hwd, Inw_c (g := g) (h := g) rfl rfl rfl rfl (fun _ _ _ => rfl) hnw, Ist_c (g := g) (h := g) (r := r) hR rfl rfl (fun _ _ _ => rfl) (fun _ _ _ => rfl) rfl rfl rfl rfl (fun _ _ => rfl) (fun _ _ => rfl) (fun _ _ => rfl) rfl rfl rfl hst, Ish_c (g := g) (h := g) rfl rfl rfl rfl rfl hsh, rfl⟩
                 · subst hh; rfl
                 · subst hh; rfl)
      · refine o_bipush (n := 16) rfl rfl ?_
        refine o_iret rfl rfl ?_
        first
          | (exfalso; omega; done)
          | (refine ⟨rfl, ?_, ?_, ?_⟩
             · subst hh; exact ⟨⟨hS, hR, h6, hP⟩, Isg_c (g := g) (h := g) rfl rfl hsg, Itx_c (g := g) (h := g) rfl rfl rfl rfl htx, Iru_c (g := g) (h := g) (r := r) (by omega) hR (fun _ _ _ => rfl) (fun _ _ _ => rfl) rfl rfl rfl rfl rfl rfl rfl rfl hru, Iwd_c (g := g) (h := g) (by omega) rfl rfl rfl rfl rfl rfl hwd, Inw_c (g := g) (h := g) rfl rfl rfl rfl (fun _ _ _ => rfl) hnw, Ist_c (g := g) (h := g) (r := r) hR rfl rfl (fun _ _ _ => rfl) (fun _ _ _ => rfl) rfl rfl rfl rfl (fun _ _ => rfl) (fun _ _ => rfl) (fun _ _ => rfl) rfl rfl rfl hst, Ish_c (g := g) (h := g) rfl rfl rfl rfl rfl hsh, Ila_c (g := g) (h := g) rfl rfl hla⟩
             · subst hh; rfl
             · subst hh; rfl)
          | (refine ⟨congrArg (fun z => some (vI z)) ?_, ?_, ?_, ?_⟩
             · omega
             · subst hh; exact ⟨⟨hS, hR, h6, hP⟩, Isg_c (g := g) (h := g) rfl rfl hsg, Itx_c (g := g) (h := g) rfl rfl rfl rfl htx, Iru_c (g := g) (h := g) (r := r) (by omega) hR (fun _ _ _ => rfl) (fun _ _ _ => rfl) rfl rfl rfl rfl rfl rfl rfl rfl hru, Iwd_c (g := g) (h := g) (by omega) rfl rfl rfl rfl rfl rfl hwd, Inw_c (g := g) (h := g) rfl rfl rfl rfl (fun _ _ _ => rfl) hnw, Ist_c (g := g) (h := g) (r := r) hR rfl rfl (fun _ _ _ => rfl) (fun _ _ _ => rfl) rfl rfl rfl rfl (fun _ _ => rfl) (fun _ _ => rfl) (fun _ _ => rfl) rfl rfl rfl hst, Ish_c (g := g) (h := g) rfl rfl rfl rfl rfl hsh, Ila_c (g := g) (h := g) rfl rfl hla⟩
             · subst hh; rfl
             · subst hh; rfl)
  · refine o_iload_n (n := 8) rfl rfl rfl ?_
    refine o_invsi (n := 11) rfl rfl rfl rfl rfl rfl (c7_isSheet _) ?_
    refine o_ifb_ne (n := 14) (t := 17) rfl rfl rfl (fun q11 => ?_) (fun q11 => ?_)
    · refine o_aload_n (n := 18) rfl rfl rfl ?_
      refine of_7_4 (n := 21) hS rfl rfl ?_
      refine o_iload_n (n := 22) rfl rfl rfl ?_
      refine o_shr (n := 23) hS rfl rfl (by omega) (by omega) ?_
      refine o_astore_6 (n := 25) rfl rfl rfl ?_
      refine o_aload_n (n := 26) rfl rfl rfl ?_
      refine of_7_4 (n := 29) hS rfl rfl ?_
      refine o_iload_n (n := 30) rfl rfl rfl ?_
      refine o_shr (n := 31) hS rfl rfl (by omega) (by omega) ?_
      refine o_astore_7 (n := 33) rfl rfl rfl ?_
      refine o_aload (n := 35) rfl rfl rfl ?_
      refine o_geti (n := 38) rfl rfl rfl (ok_3 (by omega) (by omega)) rfl ?_
      refine o_iconst (n := 39) rfl rfl ?_
      refine o_icmp_eq (n := 42) (t := 51) rfl rfl rfl (fun q39 => ?_) (fun q39 => ?_)
      · refine o_aload_n (n := 52) rfl rfl rfl ?_
        refine o_iconst (n := 53) rfl rfl ?_
        refine o_invi (n := 56) rfl rfl rfl rfl rfl rfl rfl rfl rfl rfl (c7_found _ (by omega) (by omega)) ?_
        refine o_iret rfl rfl ?_
        refine q8_of (g := g) (r := r) (fun k hk => by first | rfl | exact gset_kf (isM_ne hk (by decide)) | exact (gset_kf (isM_ne hk (by decide))).trans (gset_kf (isM_ne hk (by decide))) | exact (gset_kf (isM_ne hk (by decide))).trans ((gset_kf (isM_ne hk (by decide))).trans (gset_kf (isM_ne hk (by decide)))) | exact (gset_kf (isM_ne hk (by decide))).trans ((gset_kf (isM_ne hk (by decide))).trans ((gset_kf (isM_ne hk (by decide))).trans (gset_kf (isM_ne hk (by decide)))))) hI (fun h hh hJ => ?_)
        show Ou 120 0 [vR 8 0, vI a, vI i, vI t, vI j, vI n, vN] [] h _ _
        obtain ⟨jsg1, jsg2, jsg3⟩ := hJ.2.1
        obtain ⟨jtx1, jtx2, jtx3, jtx4⟩ := hJ.2.2.1
        have jru0 : g 7 0 10 = h 8 0 8 := hJ.2.2.2.1.1.1
        have jru1 := hJ.2.2.2.1.2.1.1
        have jwd0 : g 1 0 1 = h 8 0 14 := hJ.2.2.2.2.1.1.1
        have jwd1 := hJ.2.2.2.2.1.2.1.1
        have jwd2 := hJ.2.2.2.2.1.2.2
        have jnw0 : g 0 0 0 = h 27 0 8 := hJ.2.2.2.2.2.1.1.1
        have jnw1 : g 0 0 1 = h 28 0 8 := hJ.2.2.2.2.2.1.1.2.1
        have jnw2 := hJ.2.2.2.2.2.1.2.1
        have jnw3 := hJ.2.2.2.2.2.1.2.2.1
        have jst0 := hJ.2.2.2.2.2.2.1.1
        have jst1 := hJ.2.2.2.2.2.2.1.2.1
        have jst2 := hJ.2.2.2.2.2.2.1.2.2.1
        have jla0 : g 7 0 13 = h 8 0 4 := hJ.2.2.2.2.2.2.2.2
        have jsh_a : (0 ≤ a ∧ a < 4) → (g 3 a 0 = h 17 0 a ∧ -1 ≤ h 17 0 a ∧ h 17 0 a ≤ 2 ∧ g 3 a 1 = h 18 0 a ∧ 0 ≤ h 18 0 a ∧ h 18 0 a ≤ 60) := fun z => by
          have := hJ.2.2.2.2.2.2.2.1 a z.1 z.2
          exact ⟨this.1.1, this.1.2.1, this.1.2.2, this.2.1.1, this.2.1.2.1, this.2.1.2.2⟩
        have jsh_t : (0 ≤ t ∧ t < 4) → (g 3 t 0 = h 17 0 t ∧ -1 ≤ h 17 0 t ∧ h 17 0 t ≤ 2 ∧ g 3 t 1 = h 18 0 t ∧ 0 ≤ h 18 0 t ∧ h 18 0 t ≤ 60) := fun z => by
          have := hJ.2.2.2.2.2.2.2.1 t z.1 z.2
          exact ⟨this.1.1, this.1.2.1, this.1.2.2, this.2.1.1, this.2.1.2.1, this.2.1.2.2⟩
        refine o_iload_n (n := 1) rfl rfl rfl ?_
        refine o_invsi (n := 4) rfl rfl rfl rfl rfl rfl (c8_isSheet _) ?_
        refine o_ifb_eq (n := 7) (t := 14) rfl rfl rfl (fun k4 => ?_) (fun k4 => ?_)
        · refine o_bipush (n := 16) rfl rfl ?_
          refine o_iret rfl rfl ?_
          first
            | (exfalso; omega; done)
            | (refine ⟨rfl, ?_, ?_, ?_⟩
               · subst hh; exact ⟨⟨hS, hR, h6, hP⟩, Isg_c (g := g) (h := g) rfl rfl hsg, Itx_c (g := g) (h := g) rfl rfl rfl rfl htx, Iru_c (g := g) (h := g) (r := r) (by omega) hR (fun _ _ _ => rfl) (fun _ _ _ => rfl) rfl rfl rfl rfl rfl rfl rfl rfl hru, Iwd_c (g := g) (h := g) (by omega) rfl rfl rfl rfl rfl rfl hwd, Inw_c (g := g) (h := g) rfl rfl rfl rfl (fun _ _ _ => rfl) hnw, Ist_c (g := g) (h := g) (r := r) hR rfl rfl (fun _ _ _ => rfl) (fun _ _ _ => rfl) rfl rfl rfl rfl (fun _ _ => rfl) (fun _ _ => rfl) (fun _ _ => rfl) rfl rfl rfl hst, Ish_c (g := g) (h := g) rfl rfl rfl rfl rfl hsh, Ila_c (g := g) (h := g) rfl rfl hla⟩
               · subst hh; rfl
               · subst hh; rfl)
            | (refine ⟨congrArg (fun z => some (vI z)) ?_, ?_, ?_, ?_⟩
               · omega
               · subst hh; exact ⟨⟨hS, hR, h6, hP⟩, Isg_c (g := g) (h := g) rfl rfl hsg, Itx_c (g := g) (h := g) rfl rfl rfl rfl htx, Iru_c (g := g) (h := g) (r := r) (by omega) hR (fun _ _ _ => rfl) (fun _ _ _ => rfl) rfl rfl rfl rfl rfl rfl rfl rfl hru, Iwd_c (g := g) (h := g) (by omega) rfl rfl rfl rfl rfl rfl hwd, Inw_c (g := g) (h := g) rfl rfl rfl rfl (fun _ _ _ => rfl) hnw, Ist_c (g := g) (h := g) (r := r) hR rfl rfl (fun _ _ _ => rfl) (fun _ _ _ => rfl) rfl rfl rfl rfl (fun _ _ => rfl) (fun _ _ => rfl) (fun _ _ => rfl) rfl rfl rfl hst, Ish_c (g := g) (h := g) rfl rfl rfl rfl rfl hsh, Ila_c (g := g) (h := g) rfl rfl hla⟩
               · subst hh; rfl
               · subst hh; rfl)
        · refine o_iload_n (n := 8) rfl rfl rfl ?_
          refine o_invsi (n := 11) rfl rfl rfl rfl rfl rfl (c8_isSheet _) ?_
          refine o_ifb_ne (n := 14) (t := 17) rfl rfl rfl (fun k11 => ?_) (fun k11 => ?_)
          · refine o_aload_n (n := 18) rfl rfl rfl ?_
            refine of_8_0 (n := 21) hS rfl rfl ?_
            refine o_iload_n (n := 22) rfl rfl rfl ?_
            refine o_iald (n := 23) (L := 4) rfl rfl rfl rfl rfl (by omega) (by omega) ?_
            refine o_if_lt (n := 26) (t := 35) rfl rfl rfl (fun k23 => ?_) (fun k23 => ?_)
            · refine o_aload_n (n := 36) rfl rfl rfl ?_
              refine o_iconst (n := 37) rfl rfl ?_
              refine o_invi (n := 40) rfl rfl rfl rfl rfl rfl rfl rfl rfl rfl (c8_finds _ (by omega) (by omega)) ?_
              refine o_iret rfl rfl ?_
              first
                | (exfalso; omega; done)
                | (refine ⟨rfl, ?_, ?_, ?_⟩
                   · subst hh; exact ⟨⟨hS, hR, h6, hP⟩, Isg_c (g := g) (h := g) rfl rfl hsg, Itx_c (g := g) (h := g) rfl rfl rfl rfl htx, Iru_c (g := g) (h := g) (r := r) (by omega) hR (fun _ _ _ => rfl) (fun _ _ _ => rfl) rfl rfl rfl rfl rfl rfl rfl rfl hru, Iwd_c (g := g) (h := g) (by omega) rfl rfl rfl rfl rfl rfl hwd, Inw_c (g := g) (h := g) rfl rfl rfl rfl (fun _ _ _ => rfl) hnw, Ist_c (g := g) (h := g) (r := r) hR rfl rfl (fun _ _ _ => rfl) (fun _ _ _ => rfl) rfl rfl rfl rfl (fun _ _ => rfl) (fun _ _ => rfl) (fun _ _ => rfl) rfl rfl rfl hst, Ish_c (g := g) (h := g) rfl rfl rfl rfl rfl hsh, rfl⟩
                   · subst hh; rfl
                   · subst hh; rfl)
                | (refine ⟨congrArg (fun z => some (vI z)) ?_, ?_, ?_, ?_⟩
                   · omega
                   · subst hh; exact ⟨⟨hS, hR, h6, hP⟩, Isg_c (g := g) (h := g) rfl rfl hsg, Itx_c (g := g) (h := g) rfl rfl rfl rfl htx, Iru_c (g := g) (h := g) (r := r) (by omega) hR (fun _ _ _ => rfl) (fun _ _ _ => rfl) rfl rfl rfl rfl rfl rfl rfl rfl hru, Iwd_c (g := g) (h := g) (by omega) rfl rfl rfl rfl rfl rfl hwd, Inw_c (g := g) (h := g) rfl rfl rfl rfl (fun _ _ _ => rfl) hnw, Ist_c (g := g) (h := g) (r := r) hR rfl rfl (fun _ _ _ => rfl) (fun _ _ _ => rfl) rfl rfl rfl rfl (fun _ _ => rfl) (fun _ _ => rfl) (fun _ _ => rfl) rfl rfl rfl hst, Ish_c (g := g) (h := g) rfl rfl rfl rfl rfl hsh, rfl⟩
                   · subst hh; rfl
                   · subst hh; rfl)
            · refine o_aload_n (n := 27) rfl rfl rfl ?_
              refine of_8_0 (n := 30) hS rfl rfl ?_
              refine o_iload_n (n := 31) rfl rfl rfl ?_
              refine o_iald (n := 32) (L := 4) rfl rfl rfl rfl rfl (by omega) (by omega) ?_
              refine o_if_ge (n := 35) (t := 41) rfl rfl rfl (fun k32 => ?_) (fun k32 => ?_)
              · refine o_aload_n (n := 42) rfl rfl rfl ?_
                refine of_8_0 (n := 45) hS rfl rfl ?_
                refine o_iload_n (n := 46) rfl rfl rfl ?_
                refine o_iald (n := 47) (L := 4) rfl rfl rfl rfl rfl (by omega) (by omega) ?_
                refine o_aload_n (n := 48) rfl rfl rfl ?_
                refine of_8_0 (n := 51) hS rfl rfl ?_
                refine o_iload_n (n := 52) rfl rfl rfl ?_
                refine o_iald (n := 53) (L := 4) rfl rfl rfl rfl rfl (by omega) (by omega) ?_
                refine o_icmp_eq (n := 56) (t := 62) rfl rfl rfl (fun k53 => ?_) (fun k53 => ?_)
                · refine o_iload_n (n := 63) rfl rfl rfl ?_
                  refine o_if_lt (n := 66) (t := 111) rfl rfl rfl (fun k63 => ?_) (fun k63 => ?_)
                  · refine o_aload_n (n := 112) rfl rfl rfl ?_
                    refine o_iconst (n := 113) rfl rfl ?_
                    refine o_invi (n := 116) rfl rfl rfl rfl rfl rfl rfl rfl rfl rfl (c8_finds _ (by omega) (by omega)) ?_
                    refine o_iret rfl rfl ?_
                    first
                      | (exfalso; omega; done)
                      | (refine ⟨rfl, ?_, ?_, ?_⟩
                         · subst hh; exact ⟨⟨hS, hR, h6, hP⟩, Isg_c (g := g) (h := g) rfl rfl hsg, Itx_c (g := g) (h := g) rfl rfl rfl rfl htx, Iru_c (g := g) (h := g) (r := r) (by omega) hR (fun _ _ _ => rfl) (fun _ _ _ => rfl) rfl rfl rfl rfl rfl rfl rfl rfl hru, Iwd_c (g := g) (h := g) (by omega) rfl rfl rfl rfl rfl rfl hwd, Inw_c (g := g) (h := g) rfl rfl rfl rfl (fun _ _ _ => rfl) hnw, Ist_c (g := g) (h := g) (r := r) hR rfl rfl (fun _ _ _ => rfl) (fun _ _ _ => rfl) rfl rfl rfl rfl (fun _ _ => rfl) (fun _ _ => rfl) (fun _ _ => rfl) rfl rfl rfl hst, Ish_c (g := g) (h := g) rfl rfl rfl rfl rfl hsh, rfl⟩
                         · subst hh; rfl
                         · subst hh; rfl)
                      | (refine ⟨congrArg (fun z => some (vI z)) ?_, ?_, ?_, ?_⟩
                         · omega
                         · subst hh; exact ⟨⟨hS, hR, h6, hP⟩, Isg_c (g := g) (h := g) rfl rfl hsg, Itx_c (g := g) (h := g) rfl rfl rfl rfl htx, Iru_c (g := g) (h := g) (r := r) (by omega) hR (fun _ _ _ => rfl) (fun _ _ _ => rfl) rfl rfl rfl rfl rfl rfl rfl rfl hru, Iwd_c (g := g) (h := g) (by omega) rfl rfl rfl rfl rfl rfl hwd, Inw_c (g := g) (h := g) rfl rfl rfl rfl (fun _ _ _ => rfl) hnw, Ist_c (g := g) (h := g) (r := r) hR rfl rfl (fun _ _ _ => rfl) (fun _ _ _ => rfl) rfl rfl rfl rfl (fun _ _ => rfl) (fun _ _ => rfl) (fun _ _ => rfl) rfl rfl rfl hst, Ish_c (g := g) (h := g) rfl rfl rfl rfl rfl hsh, rfl⟩
                         · subst hh; rfl
                         · subst hh; rfl)
                  · refine o_iload (n := 68) rfl rfl rfl ?_
                    refine o_if_lt (n := 71) (t := 111) rfl rfl rfl (fun k68 => ?_) (fun k68 => ?_)
                    · refine o_aload_n (n := 112) rfl rfl rfl ?_
                      refine o_iconst (n := 113) rfl rfl ?_
                      refine o_invi (n := 116) rfl rfl rfl rfl rfl rfl rfl rfl rfl rfl (c8_finds _ (by omega) (by omega)) ?_
                      refine o_iret rfl rfl ?_
                      first
                        | (exfalso; omega; done)
                        | (refine ⟨rfl, ?_, ?_, ?_⟩
                           · subst hh; exact ⟨⟨hS, hR, h6, hP⟩, Isg_c (g := g) (h := g) rfl rfl hsg, Itx_c (g := g) (h := g) rfl rfl rfl rfl htx, Iru_c (g := g) (h := g) (r := r) (by omega) hR (fun _ _ _ => rfl) (fun _ _ _ => rfl) rfl rfl rfl rfl rfl rfl rfl rfl hru, Iwd_c (g := g) (h := g) (by omega) rfl rfl rfl rfl rfl rfl hwd, Inw_c (g := g) (h := g) rfl rfl rfl rfl (fun _ _ _ => rfl) hnw, Ist_c (g := g) (h := g) (r := r) hR rfl rfl (fun _ _ _ => rfl) (fun _ _ _ => rfl) rfl rfl rfl rfl (fun _ _ => rfl) (fun _ _ => rfl) (fun _ _ => rfl) rfl rfl rfl hst, Ish_c (g := g) (h := g) rfl rfl rfl rfl rfl hsh, rfl⟩
                           · subst hh; rfl
                           · subst hh; rfl)
                        | (refine ⟨congrArg (fun z => some (vI z)) ?_, ?_, ?_, ?_⟩
                           · omega
                           · subst hh; exact ⟨⟨hS, hR, h6, hP⟩, Isg_c (g := g) (h := g) rfl rfl hsg, Itx_c (g := g) (h := g) rfl rfl rfl rfl htx, Iru_c (g := g) (h := g) (r := r) (by omega) hR (fun _ _ _ => rfl) (fun _ _ _ => rfl) rfl rfl rfl rfl rfl rfl rfl rfl hru, Iwd_c (g := g) (h := g) (by omega) rfl rfl rfl rfl rfl rfl hwd, Inw_c (g := g) (h := g) rfl rfl rfl rfl (fun _ _ _ => rfl) hnw, Ist_c (g := g) (h := g) (r := r) hR rfl rfl (fun _ _ _ => rfl) (fun _ _ _ => rfl) rfl rfl rfl rfl (fun _ _ => rfl) (fun _ _ => rfl) (fun _ _ => rfl) rfl rfl rfl hst, Ish_c (g := g) (h := g) rfl rfl rfl rfl rfl hsh, rfl⟩
                           · subst hh; rfl
                           · subst hh; rfl)
                    · refine o_iload (n := 73) rfl rfl rfl ?_
                      refine o_if_lt (n := 76) (t := 111) rfl rfl rfl (fun k73 => ?_) (fun k73 => ?_)
                      · refine o_aload_n (n := 112) rfl rfl rfl ?_
                        refine o_iconst (n := 113) rfl rfl ?_
                        refine o_invi (n := 116) rfl rfl rfl rfl rfl rfl rfl rfl rfl rfl (c8_finds _ (by omega) (by omega)) ?_
                        refine o_iret rfl rfl ?_
                        first
                          | (exfalso; omega; done)
                          | (refine ⟨rfl, ?_, ?_, ?_⟩
                             · subst hh; exact ⟨⟨hS, hR, h6, hP⟩, Isg_c (g := g) (h := g) rfl rfl hsg, Itx_c (g := g) (h := g) rfl rfl rfl rfl htx, Iru_c (g := g) (h := g) (r := r) (by omega) hR (fun _ _ _ => rfl) (fun _ _ _ => rfl) rfl rfl rfl rfl rfl rfl rfl rfl hru, Iwd_c (g := g) (h := g) (by omega) rfl rfl rfl rfl rfl rfl hwd, Inw_c (g := g) (h := g) rfl rfl rfl rfl (fun _ _ _ => rfl) hnw, Ist_c (g := g) (h := g) (r := r) hR rfl rfl (fun _ _ _ => rfl) (fun _ _ _ => rfl) rfl rfl rfl rfl (fun _ _ => rfl) (fun _ _ => rfl) (fun _ _ => rfl) rfl rfl rfl hst, Ish_c (g := g) (h := g) rfl rfl rfl rfl rfl hsh, rfl⟩
                             · subst hh; rfl
                             · subst hh; rfl)
                          | (refine ⟨congrArg (fun z => some (vI z)) ?_, ?_, ?_, ?_⟩
                             · omega
                             · subst hh; exact ⟨⟨hS, hR, h6, hP⟩, Isg_c (g := g) (h := g) rfl rfl hsg, Itx_c (g := g) (h := g) rfl rfl rfl rfl htx, Iru_c (g := g) (h := g) (r := r) (by omega) hR (fun _ _ _ => rfl) (fun _ _ _ => rfl) rfl rfl rfl rfl rfl rfl rfl rfl hru, Iwd_c (g := g) (h := g) (by omega) rfl rfl rfl rfl rfl rfl hwd, Inw_c (g := g) (h := g) rfl rfl rfl rfl (fun _ _ _ => rfl) hnw, Ist_c (g := g) (h := g) (r := r) hR rfl rfl (fun _ _ _ => rfl) (fun _ _ _ => rfl) rfl rfl rfl rfl (fun _ _ => rfl) (fun _ _ => rfl) (fun _ _ => rfl) rfl rfl rfl hst, Ish_c (g := g) (h := g) rfl rfl rfl rfl rfl hsh, rfl⟩
                             · subst hh; rfl
                             · subst hh; rfl)
                      · refine o_iload_n (n := 77) rfl rfl rfl ?_
                        refine o_i2l (n := 78) rfl rfl ?_
                        refine o_iload (n := 80) rfl rfl rfl ?_
                        refine o_i2l (n := 81) rfl rfl ?_
                        refine o_laddN (n := 82) rfl rfl (by omega) ?_
                        refine o_aload_n (n := 83) rfl rfl rfl ?_
                        refine of_8_1 (n := 86) hS rfl rfl ?_
                        refine o_iload_n (n := 87) rfl rfl rfl ?_
                        refine o_iald (n := 88) (L := 4) rfl rfl rfl rfl rfl (by omega) (by omega) ?_
                        refine o_i2l (n := 89) rfl rfl ?_
                        refine o_lcmp_gt (n := 93) (t := 111) rfl rfl rfl rfl (fun k89 => ?_) (fun k89 => ?_)
                        · refine o_aload_n (n := 112) rfl rfl rfl ?_
                          refine o_iconst (n := 113) rfl rfl ?_
                          refine o_invi (n := 116) rfl rfl rfl rfl rfl rfl rfl rfl rfl rfl (c8_finds _ (by omega) (by omega)) ?_
                          refine o_iret rfl rfl ?_
                          first
                            | (exfalso; omega; done)
                            | (refine ⟨rfl, ?_, ?_, ?_⟩
                               · subst hh; exact ⟨⟨hS, hR, h6, hP⟩, Isg_c (g := g) (h := g) rfl rfl hsg, Itx_c (g := g) (h := g) rfl rfl rfl rfl htx, Iru_c (g := g) (h := g) (r := r) (by omega) hR (fun _ _ _ => rfl) (fun _ _ _ => rfl) rfl rfl rfl rfl rfl rfl rfl rfl hru, Iwd_c (g := g) (h := g) (by omega) rfl rfl rfl rfl rfl rfl hwd, Inw_c (g := g) (h := g) rfl rfl rfl rfl (fun _ _ _ => rfl) hnw, Ist_c (g := g) (h := g) (r := r) hR rfl rfl (fun _ _ _ => rfl) (fun _ _ _ => rfl) rfl rfl rfl rfl (fun _ _ => rfl) (fun _ _ => rfl) (fun _ _ => rfl) rfl rfl rfl hst, Ish_c (g := g) (h := g) rfl rfl rfl rfl rfl hsh, rfl⟩
                               · subst hh; rfl
                               · subst hh; rfl)
                            | (refine ⟨congrArg (fun z => some (vI z)) ?_, ?_, ?_, ?_⟩
                               · omega
                               · subst hh; exact ⟨⟨hS, hR, h6, hP⟩, Isg_c (g := g) (h := g) rfl rfl hsg, Itx_c (g := g) (h := g) rfl rfl rfl rfl htx, Iru_c (g := g) (h := g) (r := r) (by omega) hR (fun _ _ _ => rfl) (fun _ _ _ => rfl) rfl rfl rfl rfl rfl rfl rfl rfl hru, Iwd_c (g := g) (h := g) (by omega) rfl rfl rfl rfl rfl rfl hwd, Inw_c (g := g) (h := g) rfl rfl rfl rfl (fun _ _ _ => rfl) hnw, Ist_c (g := g) (h := g) (r := r) hR rfl rfl (fun _ _ _ => rfl) (fun _ _ _ => rfl) rfl rfl rfl rfl (fun _ _ => rfl) (fun _ _ => rfl) (fun _ _ => rfl) rfl rfl rfl hst, Ish_c (g := g) (h := g) rfl rfl rfl rfl rfl hsh, rfl⟩
                               · subst hh; rfl
                               · subst hh; rfl)
                        · refine o_iload (n := 95) rfl rfl rfl ?_
                          refine o_i2l (n := 96) rfl rfl ?_
                          refine o_iload (n := 98) rfl rfl rfl ?_
                          refine o_i2l (n := 99) rfl rfl ?_
                          refine o_laddN (n := 100) rfl rfl (by omega) ?_
                          refine o_aload_n (n := 101) rfl rfl rfl ?_
                          refine of_8_1 (n := 104) hS rfl rfl ?_
                          refine o_iload_n (n := 105) rfl rfl rfl ?_
                          refine o_iald (n := 106) (L := 4) rfl rfl rfl rfl rfl (by omega) (by omega) ?_
                          refine o_i2l (n := 107) rfl rfl ?_
                          refine o_lcmp_le (n := 111) (t := 117) rfl rfl rfl rfl (fun k107 => ?_) (fun k107 => ?_)
                          · refine o_iconst (n := 118) rfl rfl ?_
                            refine o_istore_6 (n := 120) rfl rfl rfl ?_
                            exfalso; omega
                          · refine o_aload_n (n := 112) rfl rfl rfl ?_
                            refine o_iconst (n := 113) rfl rfl ?_
                            refine o_invi (n := 116) rfl rfl rfl rfl rfl rfl rfl rfl rfl rfl (c8_finds _ (by omega) (by omega)) ?_
                            refine o_iret rfl rfl ?_
                            first
                              | (exfalso; omega; done)
                              | (refine ⟨rfl, ?_, ?_, ?_⟩
                                 · subst hh; exact ⟨⟨hS, hR, h6, hP⟩, Isg_c (g := g) (h := g) rfl rfl hsg, Itx_c (g := g) (h := g) rfl rfl rfl rfl htx, Iru_c (g := g) (h := g) (r := r) (by omega) hR (fun _ _ _ => rfl) (fun _ _ _ => rfl) rfl rfl rfl rfl rfl rfl rfl rfl hru, Iwd_c (g := g) (h := g) (by omega) rfl rfl rfl rfl rfl rfl hwd, Inw_c (g := g) (h := g) rfl rfl rfl rfl (fun _ _ _ => rfl) hnw, Ist_c (g := g) (h := g) (r := r) hR rfl rfl (fun _ _ _ => rfl) (fun _ _ _ => rfl) rfl rfl rfl rfl (fun _ _ => rfl) (fun _ _ => rfl) (fun _ _ => rfl) rfl rfl rfl hst, Ish_c (g := g) (h := g) rfl rfl rfl rfl rfl hsh, rfl⟩
                                 · subst hh; rfl
                                 · subst hh; rfl)
                              | (refine ⟨congrArg (fun z => some (vI z)) ?_, ?_, ?_, ?_⟩
                                 · omega
                                 · subst hh; exact ⟨⟨hS, hR, h6, hP⟩, Isg_c (g := g) (h := g) rfl rfl hsg, Itx_c (g := g) (h := g) rfl rfl rfl rfl htx, Iru_c (g := g) (h := g) (r := r) (by omega) hR (fun _ _ _ => rfl) (fun _ _ _ => rfl) rfl rfl rfl rfl rfl rfl rfl rfl hru, Iwd_c (g := g) (h := g) (by omega) rfl rfl rfl rfl rfl rfl hwd, Inw_c (g := g) (h := g) rfl rfl rfl rfl (fun _ _ _ => rfl) hnw, Ist_c (g := g) (h := g) (r := r) hR rfl rfl (fun _ _ _ => rfl) (fun _ _ _ => rfl) rfl rfl rfl rfl (fun _ _ => rfl) (fun _ _ => rfl) (fun _ _ => rfl) rfl rfl rfl hst, Ish_c (g := g) (h := g) rfl rfl rfl rfl rfl hsh, rfl⟩
                                 · subst hh; rfl
                                 · subst hh; rfl)
                · refine o_aload_n (n := 57) rfl rfl rfl ?_
                  refine o_iconst (n := 58) rfl rfl ?_
                  refine o_invi (n := 61) rfl rfl rfl rfl rfl rfl rfl rfl rfl rfl (c8_finds _ (by omega) (by omega)) ?_
                  refine o_iret rfl rfl ?_
                  first
                    | (exfalso; omega; done)
                    | (refine ⟨rfl, ?_, ?_, ?_⟩
                       · subst hh; exact ⟨⟨hS, hR, h6, hP⟩, Isg_c (g := g) (h := g) rfl rfl hsg, Itx_c (g := g) (h := g) rfl rfl rfl rfl htx, Iru_c (g := g) (h := g) (r := r) (by omega) hR (fun _ _ _ => rfl) (fun _ _ _ => rfl) rfl rfl rfl rfl rfl rfl rfl rfl hru, Iwd_c (g := g) (h := g) (by omega) rfl rfl rfl rfl rfl rfl hwd, Inw_c (g := g) (h := g) rfl rfl rfl rfl (fun _ _ _ => rfl) hnw, Ist_c (g := g) (h := g) (r := r) hR rfl rfl (fun _ _ _ => rfl) (fun _ _ _ => rfl) rfl rfl rfl rfl (fun _ _ => rfl) (fun _ _ => rfl) (fun _ _ => rfl) rfl rfl rfl hst, Ish_c (g := g) (h := g) rfl rfl rfl rfl rfl hsh, rfl⟩
                       · subst hh; rfl
                       · subst hh; rfl)
                    | (refine ⟨congrArg (fun z => some (vI z)) ?_, ?_, ?_, ?_⟩
                       · omega
                       · subst hh; exact ⟨⟨hS, hR, h6, hP⟩, Isg_c (g := g) (h := g) rfl rfl hsg, Itx_c (g := g) (h := g) rfl rfl rfl rfl htx, Iru_c (g := g) (h := g) (r := r) (by omega) hR (fun _ _ _ => rfl) (fun _ _ _ => rfl) rfl rfl rfl rfl rfl rfl rfl rfl hru, Iwd_c (g := g) (h := g) (by omega) rfl rfl rfl rfl rfl rfl hwd, Inw_c (g := g) (h := g) rfl rfl rfl rfl (fun _ _ _ => rfl) hnw, Ist_c (g := g) (h := g) (r := r) hR rfl rfl (fun _ _ _ => rfl) (fun _ _ _ => rfl) rfl rfl rfl rfl (fun _ _ => rfl) (fun _ _ => rfl) (fun _ _ => rfl) rfl rfl rfl hst, Ish_c (g := g) (h := g) rfl rfl rfl rfl rfl hsh, rfl⟩
                       · subst hh; rfl
                       · subst hh; rfl)
              · refine o_aload_n (n := 36) rfl rfl rfl ?_
                refine o_iconst (n := 37) rfl rfl ?_
                refine o_invi (n := 40) rfl rfl rfl rfl rfl rfl rfl rfl rfl rfl (c8_finds _ (by omega) (by omega)) ?_
                refine o_iret rfl rfl ?_
                first
                  | (exfalso; omega; done)
                  | (refine ⟨rfl, ?_, ?_, ?_⟩
                     · subst hh; exact ⟨⟨hS, hR, h6, hP⟩, Isg_c (g := g) (h := g) rfl rfl hsg, Itx_c (g := g) (h := g) rfl rfl rfl rfl htx, Iru_c (g := g) (h := g) (r := r) (by omega) hR (fun _ _ _ => rfl) (fun _ _ _ => rfl) rfl rfl rfl rfl rfl rfl rfl rfl hru, Iwd_c (g := g) (h := g) (by omega) rfl rfl rfl rfl rfl rfl hwd, Inw_c (g := g) (h := g) rfl rfl rfl rfl (fun _ _ _ => rfl) hnw, Ist_c (g := g) (h := g) (r := r) hR rfl rfl (fun _ _ _ => rfl) (fun _ _ _ => rfl) rfl rfl rfl rfl (fun _ _ => rfl) (fun _ _ => rfl) (fun _ _ => rfl) rfl rfl rfl hst, Ish_c (g := g) (h := g) rfl rfl rfl rfl rfl hsh, rfl⟩
                     · subst hh; rfl
                     · subst hh; rfl)
                  | (refine ⟨congrArg (fun z => some (vI z)) ?_, ?_, ?_, ?_⟩
                     · omega
                     · subst hh; exact ⟨⟨hS, hR, h6, hP⟩, Isg_c (g := g) (h := g) rfl rfl hsg, Itx_c (g := g) (h := g) rfl rfl rfl rfl htx, Iru_c (g := g) (h := g) (r := r) (by omega) hR (fun _ _ _ => rfl) (fun _ _ _ => rfl) rfl rfl rfl rfl rfl rfl rfl rfl hru, Iwd_c (g := g) (h := g) (by omega) rfl rfl rfl rfl rfl rfl hwd, Inw_c (g := g) (h := g) rfl rfl rfl rfl (fun _ _ _ => rfl) hnw, Ist_c (g := g) (h := g) (r := r) hR rfl rfl (fun _ _ _ => rfl) (fun _ _ _ => rfl) rfl rfl rfl rfl (fun _ _ => rfl) (fun _ _ => rfl) (fun _ _ => rfl) rfl rfl rfl hst, Ish_c (g := g) (h := g) rfl rfl rfl rfl rfl hsh, rfl⟩
                     · subst hh; rfl
                     · subst hh; rfl)
          · refine o_bipush (n := 16) rfl rfl ?_
            refine o_iret rfl rfl ?_
            first
              | (exfalso; omega; done)
              | (refine ⟨rfl, ?_, ?_, ?_⟩
                 · subst hh; exact ⟨⟨hS, hR, h6, hP⟩, Isg_c (g := g) (h := g) rfl rfl hsg, Itx_c (g := g) (h := g) rfl rfl rfl rfl htx, Iru_c (g := g) (h := g) (r := r) (by omega) hR (fun _ _ _ => rfl) (fun _ _ _ => rfl) rfl rfl rfl rfl rfl rfl rfl rfl hru, Iwd_c (g := g) (h := g) (by omega) rfl rfl rfl rfl rfl rfl hwd, Inw_c (g := g) (h := g) rfl rfl rfl rfl (fun _ _ _ => rfl) hnw, Ist_c (g := g) (h := g) (r := r) hR rfl rfl (fun _ _ _ => rfl) (fun _ _ _ => rfl) rfl rfl rfl rfl (fun _ _ => rfl) (fun _ _ => rfl) (fun _ _ => rfl) rfl rfl rfl hst, Ish_c (g := g) (h := g) rfl rfl rfl rfl rfl hsh, Ila_c (g := g) (h := g) rfl rfl hla⟩
                 · subst hh; rfl
                 · subst hh; rfl)
              | (refine ⟨congrArg (fun z => some (vI z)) ?_, ?_, ?_, ?_⟩
                 · omega
                 · subst hh; exact ⟨⟨hS, hR, h6, hP⟩, Isg_c (g := g) (h := g) rfl rfl hsg, Itx_c (g := g) (h := g) rfl rfl rfl rfl htx, Iru_c (g := g) (h := g) (r := r) (by omega) hR (fun _ _ _ => rfl) (fun _ _ _ => rfl) rfl rfl rfl rfl rfl rfl rfl rfl hru, Iwd_c (g := g) (h := g) (by omega) rfl rfl rfl rfl rfl rfl hwd, Inw_c (g := g) (h := g) rfl rfl rfl rfl (fun _ _ _ => rfl) hnw, Ist_c (g := g) (h := g) (r := r) hR rfl rfl (fun _ _ _ => rfl) (fun _ _ _ => rfl) rfl rfl rfl rfl (fun _ _ => rfl) (fun _ _ => rfl) (fun _ _ => rfl) rfl rfl rfl hst, Ish_c (g := g) (h := g) rfl rfl rfl rfl rfl hsh, Ila_c (g := g) (h := g) rfl rfl hla⟩
                 · subst hh; rfl
                 · subst hh; rfl)
      · refine o_aload (n := 44) rfl rfl rfl ?_
        refine o_geti (n := 47) rfl rfl rfl (ok_3 (by omega) (by omega)) rfl ?_
        refine o_iconst (n := 48) rfl rfl ?_
        refine o_icmp_ne (n := 51) (t := 57) rfl rfl rfl (fun q48 => ?_) (fun q48 => ?_)
        · refine o_aload (n := 59) rfl rfl rfl ?_
          refine o_geti (n := 62) rfl rfl rfl (ok_3 (by omega) (by omega)) rfl ?_
          refine o_aload (n := 64) rfl rfl rfl ?_
          refine o_geti (n := 67) rfl rfl rfl (ok_3 (by omega) (by omega)) rfl ?_
          refine o_icmp_eq (n := 70) (t := 76) rfl rfl rfl (fun q67 => ?_) (fun q67 => ?_)
          · refine o_aload (n := 78) rfl rfl rfl ?_
            refine o_iload_n (n := 79) rfl rfl rfl ?_
            refine o_iload (n := 81) rfl rfl rfl ?_
            refine o_invi (n := 84) rfl rfl rfl rfl rfl rfl rfl rfl rfl (ok_3 (by omega) (by omega)) (c3_hasItems _ _ _ (by omega) (by omega) (by omega) (by omega)) ?_
            refine o_ifb_eq (n := 87) (t := 99) rfl rfl rfl (fun q84 => ?_) (fun q84 => ?_)
            · refine o_aload_n (n := 100) rfl rfl rfl ?_
              refine o_iconst (n := 101) rfl rfl ?_
              refine o_invi (n := 104) rfl rfl rfl rfl rfl rfl rfl rfl rfl rfl (c7_found _ (by omega) (by omega)) ?_
              refine o_iret rfl rfl ?_
              refine q8_of (g := g) (r := r) (fun k hk => by first | rfl | exact gset_kf (isM_ne hk (by decide)) | exact (gset_kf (isM_ne hk (by decide))).trans (gset_kf (isM_ne hk (by decide))) | exact (gset_kf (isM_ne hk (by decide))).trans ((gset_kf (isM_ne hk (by decide))).trans (gset_kf (isM_ne hk (by decide)))) | exact (gset_kf (isM_ne hk (by decide))).trans ((gset_kf (isM_ne hk (by decide))).trans ((gset_kf (isM_ne hk (by decide))).trans (gset_kf (isM_ne hk (by decide)))))) hI (fun h hh hJ => ?_)
              show Ou 120 0 [vR 8 0, vI a, vI i, vI t, vI j, vI n, vN] [] h _ _
              obtain ⟨jsg1, jsg2, jsg3⟩ := hJ.2.1
              obtain ⟨jtx1, jtx2, jtx3, jtx4⟩ := hJ.2.2.1
              have jru0 : g 7 0 10 = h 8 0 8 := hJ.2.2.2.1.1.1
              have jru1 := hJ.2.2.2.1.2.1.1
              have jwd0 : g 1 0 1 = h 8 0 14 := hJ.2.2.2.2.1.1.1
              have jwd1 := hJ.2.2.2.2.1.2.1.1
              have jwd2 := hJ.2.2.2.2.1.2.2
              have jnw0 : g 0 0 0 = h 27 0 8 := hJ.2.2.2.2.2.1.1.1
              have jnw1 : g 0 0 1 = h 28 0 8 := hJ.2.2.2.2.2.1.1.2.1
              have jnw2 := hJ.2.2.2.2.2.1.2.1
              have jnw3 := hJ.2.2.2.2.2.1.2.2.1
              have jst0 := hJ.2.2.2.2.2.2.1.1
              have jst1 := hJ.2.2.2.2.2.2.1.2.1
              have jst2 := hJ.2.2.2.2.2.2.1.2.2.1
              have jla0 : g 7 0 13 = h 8 0 4 := hJ.2.2.2.2.2.2.2.2
              have jsh_a : (0 ≤ a ∧ a < 4) → (g 3 a 0 = h 17 0 a ∧ -1 ≤ h 17 0 a ∧ h 17 0 a ≤ 2 ∧ g 3 a 1 = h 18 0 a ∧ 0 ≤ h 18 0 a ∧ h 18 0 a ≤ 60) := fun z => by
                have := hJ.2.2.2.2.2.2.2.1 a z.1 z.2
                exact ⟨this.1.1, this.1.2.1, this.1.2.2, this.2.1.1, this.2.1.2.1, this.2.1.2.2⟩
              have jsh_t : (0 ≤ t ∧ t < 4) → (g 3 t 0 = h 17 0 t ∧ -1 ≤ h 17 0 t ∧ h 17 0 t ≤ 2 ∧ g 3 t 1 = h 18 0 t ∧ 0 ≤ h 18 0 t ∧ h 18 0 t ≤ 60) := fun z => by
                have := hJ.2.2.2.2.2.2.2.1 t z.1 z.2
                exact ⟨this.1.1, this.1.2.1, this.1.2.2, this.2.1.1, this.2.1.2.1, this.2.1.2.2⟩
              refine o_iload_n (n := 1) rfl rfl rfl ?_
              refine o_invsi (n := 4) rfl rfl rfl rfl rfl rfl (c8_isSheet _) ?_
              refine o_ifb_eq (n := 7) (t := 14) rfl rfl rfl (fun k4 => ?_) (fun k4 => ?_)
              · refine o_bipush (n := 16) rfl rfl ?_
                refine o_iret rfl rfl ?_
                first
                  | (exfalso; omega; done)
                  | (refine ⟨rfl, ?_, ?_, ?_⟩
                     · subst hh; exact ⟨⟨hS, hR, h6, hP⟩, Isg_c (g := g) (h := g) rfl rfl hsg, Itx_c (g := g) (h := g) rfl rfl rfl rfl htx, Iru_c (g := g) (h := g) (r := r) (by omega) hR (fun _ _ _ => rfl) (fun _ _ _ => rfl) rfl rfl rfl rfl rfl rfl rfl rfl hru, Iwd_c (g := g) (h := g) (by omega) rfl rfl rfl rfl rfl rfl hwd, Inw_c (g := g) (h := g) rfl rfl rfl rfl (fun _ _ _ => rfl) hnw, Ist_c (g := g) (h := g) (r := r) hR rfl rfl (fun _ _ _ => rfl) (fun _ _ _ => rfl) rfl rfl rfl rfl (fun _ _ => rfl) (fun _ _ => rfl) (fun _ _ => rfl) rfl rfl rfl hst, Ish_c (g := g) (h := g) rfl rfl rfl rfl rfl hsh, Ila_c (g := g) (h := g) rfl rfl hla⟩
                     · subst hh; rfl
                     · subst hh; rfl)
                  | (refine ⟨congrArg (fun z => some (vI z)) ?_, ?_, ?_, ?_⟩
                     · omega
                     · subst hh; exact ⟨⟨hS, hR, h6, hP⟩, Isg_c (g := g) (h := g) rfl rfl hsg, Itx_c (g := g) (h := g) rfl rfl rfl rfl htx, Iru_c (g := g) (h := g) (r := r) (by omega) hR (fun _ _ _ => rfl) (fun _ _ _ => rfl) rfl rfl rfl rfl rfl rfl rfl rfl hru, Iwd_c (g := g) (h := g) (by omega) rfl rfl rfl rfl rfl rfl hwd, Inw_c (g := g) (h := g) rfl rfl rfl rfl (fun _ _ _ => rfl) hnw, Ist_c (g := g) (h := g) (r := r) hR rfl rfl (fun _ _ _ => rfl) (fun _ _ _ => rfl) rfl rfl rfl rfl (fun _ _ => rfl) (fun _ _ => rfl) (fun _ _ => rfl) rfl rfl rfl hst, Ish_c (g := g) (h := g) rfl rfl rfl rfl rfl hsh, Ila_c (g := g) (h := g) rfl rfl hla⟩
                     · subst hh; rfl
                     · subst hh; rfl)
              · refine o_iload_n (n := 8) rfl rfl rfl ?_
                refine o_invsi (n := 11) rfl rfl rfl rfl rfl rfl (c8_isSheet _) ?_
                refine o_ifb_ne (n := 14) (t := 17) rfl rfl rfl (fun k11 => ?_) (fun k11 => ?_)
                · refine o_aload_n (n := 18) rfl rfl rfl ?_
                  refine of_8_0 (n := 21) hS rfl rfl ?_
                  refine o_iload_n (n := 22) rfl rfl rfl ?_
                  refine o_iald (n := 23) (L := 4) rfl rfl rfl rfl rfl (by omega) (by omega) ?_
                  refine o_if_lt (n := 26) (t := 35) rfl rfl rfl (fun k23 => ?_) (fun k23 => ?_)
                  · refine o_aload_n (n := 36) rfl rfl rfl ?_
                    refine o_iconst (n := 37) rfl rfl ?_
                    refine o_invi (n := 40) rfl rfl rfl rfl rfl rfl rfl rfl rfl rfl (c8_finds _ (by omega) (by omega)) ?_
                    refine o_iret rfl rfl ?_
                    first
                      | (exfalso; omega; done)
                      | (refine ⟨rfl, ?_, ?_, ?_⟩
                         · subst hh; exact ⟨⟨hS, hR, h6, hP⟩, Isg_c (g := g) (h := g) rfl rfl hsg, Itx_c (g := g) (h := g) rfl rfl rfl rfl htx, Iru_c (g := g) (h := g) (r := r) (by omega) hR (fun _ _ _ => rfl) (fun _ _ _ => rfl) rfl rfl rfl rfl rfl rfl rfl rfl hru, Iwd_c (g := g) (h := g) (by omega) rfl rfl rfl rfl rfl rfl hwd, Inw_c (g := g) (h := g) rfl rfl rfl rfl (fun _ _ _ => rfl) hnw, Ist_c (g := g) (h := g) (r := r) hR rfl rfl (fun _ _ _ => rfl) (fun _ _ _ => rfl) rfl rfl rfl rfl (fun _ _ => rfl) (fun _ _ => rfl) (fun _ _ => rfl) rfl rfl rfl hst, Ish_c (g := g) (h := g) rfl rfl rfl rfl rfl hsh, rfl⟩
                         · subst hh; rfl
                         · subst hh; rfl)
                      | (refine ⟨congrArg (fun z => some (vI z)) ?_, ?_, ?_, ?_⟩
                         · omega
                         · subst hh; exact ⟨⟨hS, hR, h6, hP⟩, Isg_c (g := g) (h := g) rfl rfl hsg, Itx_c (g := g) (h := g) rfl rfl rfl rfl htx, Iru_c (g := g) (h := g) (r := r) (by omega) hR (fun _ _ _ => rfl) (fun _ _ _ => rfl) rfl rfl rfl rfl rfl rfl rfl rfl hru, Iwd_c (g := g) (h := g) (by omega) rfl rfl rfl rfl rfl rfl hwd, Inw_c (g := g) (h := g) rfl rfl rfl rfl (fun _ _ _ => rfl) hnw, Ist_c (g := g) (h := g) (r := r) hR rfl rfl (fun _ _ _ => rfl) (fun _ _ _ => rfl) rfl rfl rfl rfl (fun _ _ => rfl) (fun _ _ => rfl) (fun _ _ => rfl) rfl rfl rfl hst, Ish_c (g := g) (h := g) rfl rfl rfl rfl rfl hsh, rfl⟩
                         · subst hh; rfl
                         · subst hh; rfl)
                  · refine o_aload_n (n := 27) rfl rfl rfl ?_
                    refine of_8_0 (n := 30) hS rfl rfl ?_
                    refine o_iload_n (n := 31) rfl rfl rfl ?_
                    refine o_iald (n := 32) (L := 4) rfl rfl rfl rfl rfl (by omega) (by omega) ?_
                    refine o_if_ge (n := 35) (t := 41) rfl rfl rfl (fun k32 => ?_) (fun k32 => ?_)
                    · refine o_aload_n (n := 42) rfl rfl rfl ?_
                      refine of_8_0 (n := 45) hS rfl rfl ?_
                      refine o_iload_n (n := 46) rfl rfl rfl ?_
                      refine o_iald (n := 47) (L := 4) rfl rfl rfl rfl rfl (by omega) (by omega) ?_
                      refine o_aload_n (n := 48) rfl rfl rfl ?_
                      refine of_8_0 (n := 51) hS rfl rfl ?_
                      refine o_iload_n (n := 52) rfl rfl rfl ?_
                      refine o_iald (n := 53) (L := 4) rfl rfl rfl rfl rfl (by omega) (by omega) ?_
                      refine o_icmp_eq (n := 56) (t := 62) rfl rfl rfl (fun k53 => ?_) (fun k53 => ?_)
                      · refine o_iload_n (n := 63) rfl rfl rfl ?_
                        refine o_if_lt (n := 66) (t := 111) rfl rfl rfl (fun k63 => ?_) (fun k63 => ?_)
                        · refine o_aload_n (n := 112) rfl rfl rfl ?_
                          refine o_iconst (n := 113) rfl rfl ?_
                          refine o_invi (n := 116) rfl rfl rfl rfl rfl rfl rfl rfl rfl rfl (c8_finds _ (by omega) (by omega)) ?_
                          refine o_iret rfl rfl ?_
                          first
                            | (exfalso; omega; done)
                            | (refine ⟨rfl, ?_, ?_, ?_⟩
                               · subst hh; exact ⟨⟨hS, hR, h6, hP⟩, Isg_c (g := g) (h := g) rfl rfl hsg, Itx_c (g := g) (h := g) rfl rfl rfl rfl htx, Iru_c (g := g) (h := g) (r := r) (by omega) hR (fun _ _ _ => rfl) (fun _ _ _ => rfl) rfl rfl rfl rfl rfl rfl rfl rfl hru, Iwd_c (g := g) (h := g) (by omega) rfl rfl rfl rfl rfl rfl hwd, Inw_c (g := g) (h := g) rfl rfl rfl rfl (fun _ _ _ => rfl) hnw, Ist_c (g := g) (h := g) (r := r) hR rfl rfl (fun _ _ _ => rfl) (fun _ _ _ => rfl) rfl rfl rfl rfl (fun _ _ => rfl) (fun _ _ => rfl) (fun _ _ => rfl) rfl rfl rfl hst, Ish_c (g := g) (h := g) rfl rfl rfl rfl rfl hsh, rfl⟩
                               · subst hh; rfl
                               · subst hh; rfl)
                            | (refine ⟨congrArg (fun z => some (vI z)) ?_, ?_, ?_, ?_⟩
                               · omega
                               · subst hh; exact ⟨⟨hS, hR, h6, hP⟩, Isg_c (g := g) (h := g) rfl rfl hsg, Itx_c (g := g) (h := g) rfl rfl rfl rfl htx, Iru_c (g := g) (h := g) (r := r) (by omega) hR (fun _ _ _ => rfl) (fun _ _ _ => rfl) rfl rfl rfl rfl rfl rfl rfl rfl hru, Iwd_c (g := g) (h := g) (by omega) rfl rfl rfl rfl rfl rfl hwd, Inw_c (g := g) (h := g) rfl rfl rfl rfl (fun _ _ _ => rfl) hnw, Ist_c (g := g) (h := g) (r := r) hR rfl rfl (fun _ _ _ => rfl) (fun _ _ _ => rfl) rfl rfl rfl rfl (fun _ _ => rfl) (fun _ _ => rfl) (fun _ _ => rfl) rfl rfl rfl hst, Ish_c (g := g) (h := g) rfl rfl rfl rfl rfl hsh, rfl⟩
                               · subst hh; rfl
                               · subst hh; rfl)
                        · refine o_iload (n := 68) rfl rfl rfl ?_
                          refine o_if_lt (n := 71) (t := 111) rfl rfl rfl (fun k68 => ?_) (fun k68 => ?_)
                          · refine o_aload_n (n := 112) rfl rfl rfl ?_
                            refine o_iconst (n := 113) rfl rfl ?_
                            refine o_invi (n := 116) rfl rfl rfl rfl rfl rfl rfl rfl rfl rfl (c8_finds _ (by omega) (by omega)) ?_
                            refine o_iret rfl rfl ?_
                            first
                              | (exfalso; omega; done)
                              | (refine ⟨rfl, ?_, ?_, ?_⟩
                                 · subst hh; exact ⟨⟨hS, hR, h6, hP⟩, Isg_c (g := g) (h := g) rfl rfl hsg, Itx_c (g := g) (h := g) rfl rfl rfl rfl htx, Iru_c (g := g) (h := g) (r := r) (by omega) hR (fun _ _ _ => rfl) (fun _ _ _ => rfl) rfl rfl rfl rfl rfl rfl rfl rfl hru, Iwd_c (g := g) (h := g) (by omega) rfl rfl rfl rfl rfl rfl hwd, Inw_c (g := g) (h := g) rfl rfl rfl rfl (fun _ _ _ => rfl) hnw, Ist_c (g := g) (h := g) (r := r) hR rfl rfl (fun _ _ _ => rfl) (fun _ _ _ => rfl) rfl rfl rfl rfl (fun _ _ => rfl) (fun _ _ => rfl) (fun _ _ => rfl) rfl rfl rfl hst, Ish_c (g := g) (h := g) rfl rfl rfl rfl rfl hsh, rfl⟩
                                 · subst hh; rfl
                                 · subst hh; rfl)
                              | (refine ⟨congrArg (fun z => some (vI z)) ?_, ?_, ?_, ?_⟩
                                 · omega
                                 · subst hh; exact ⟨⟨hS, hR, h6, hP⟩, Isg_c (g := g) (h := g) rfl rfl hsg, Itx_c (g := g) (h := g) rfl rfl rfl rfl htx, Iru_c (g := g) (h := g) (r := r) (by omega) hR (fun _ _ _ => rfl) (fun _ _ _ => rfl) rfl rfl rfl rfl rfl rfl rfl rfl hru, Iwd_c (g := g) (h := g) (by omega) rfl rfl rfl rfl rfl rfl hwd, Inw_c (g := g) (h := g) rfl rfl rfl rfl (fun _ _ _ => rfl) hnw, Ist_c (g := g) (h := g) (r := r) hR rfl rfl (fun _ _ _ => rfl) (fun _ _ _ => rfl) rfl rfl rfl rfl (fun _ _ => rfl) (fun _ _ => rfl) (fun _ _ => rfl) rfl rfl rfl hst, Ish_c (g := g) (h := g) rfl rfl rfl rfl rfl hsh, rfl⟩
                                 · subst hh; rfl
                                 · subst hh; rfl)
                          · refine o_iload (n := 73) rfl rfl rfl ?_
                            refine o_if_lt (n := 76) (t := 111) rfl rfl rfl (fun k73 => ?_) (fun k73 => ?_)
                            · refine o_aload_n (n := 112) rfl rfl rfl ?_
                              refine o_iconst (n := 113) rfl rfl ?_
                              refine o_invi (n := 116) rfl rfl rfl rfl rfl rfl rfl rfl rfl rfl (c8_finds _ (by omega) (by omega)) ?_
                              refine o_iret rfl rfl ?_
                              first
                                | (exfalso; omega; done)
                                | (refine ⟨rfl, ?_, ?_, ?_⟩
                                   · subst hh; exact ⟨⟨hS, hR, h6, hP⟩, Isg_c (g := g) (h := g) rfl rfl hsg, Itx_c (g := g) (h := g) rfl rfl rfl rfl htx, Iru_c (g := g) (h := g) (r := r) (by omega) hR (fun _ _ _ => rfl) (fun _ _ _ => rfl) rfl rfl rfl rfl rfl rfl rfl rfl hru, Iwd_c (g := g) (h := g) (by omega) rfl rfl rfl rfl rfl rfl hwd, Inw_c (g := g) (h := g) rfl rfl rfl rfl (fun _ _ _ => rfl) hnw, Ist_c (g := g) (h := g) (r := r) hR rfl rfl (fun _ _ _ => rfl) (fun _ _ _ => rfl) rfl rfl rfl rfl (fun _ _ => rfl) (fun _ _ => rfl) (fun _ _ => rfl) rfl rfl rfl hst, Ish_c (g := g) (h := g) rfl rfl rfl rfl rfl hsh, rfl⟩
                                   · subst hh; rfl
                                   · subst hh; rfl)
                                | (refine ⟨congrArg (fun z => some (vI z)) ?_, ?_, ?_, ?_⟩
                                   · omega
                                   · subst hh; exact ⟨⟨hS, hR, h6, hP⟩, Isg_c (g := g) (h := g) rfl rfl hsg, Itx_c (g := g) (h := g) rfl rfl rfl rfl htx, Iru_c (g := g) (h := g) (r := r) (by omega) hR (fun _ _ _ => rfl) (fun _ _ _ => rfl) rfl rfl rfl rfl rfl rfl rfl rfl hru, Iwd_c (g := g) (h := g) (by omega) rfl rfl rfl rfl rfl rfl hwd, Inw_c (g := g) (h := g) rfl rfl rfl rfl (fun _ _ _ => rfl) hnw, Ist_c (g := g) (h := g) (r := r) hR rfl rfl (fun _ _ _ => rfl) (fun _ _ _ => rfl) rfl rfl rfl rfl (fun _ _ => rfl) (fun _ _ => rfl) (fun _ _ => rfl) rfl rfl rfl hst, Ish_c (g := g) (h := g) rfl rfl rfl rfl rfl hsh, rfl⟩
                                   · subst hh; rfl
                                   · subst hh; rfl)
                            · refine o_iload_n (n := 77) rfl rfl rfl ?_
                              refine o_i2l (n := 78) rfl rfl ?_
                              refine o_iload (n := 80) rfl rfl rfl ?_
                              refine o_i2l (n := 81) rfl rfl ?_
                              refine o_laddN (n := 82) rfl rfl (by omega) ?_
                              refine o_aload_n (n := 83) rfl rfl rfl ?_
                              refine of_8_1 (n := 86) hS rfl rfl ?_
                              refine o_iload_n (n := 87) rfl rfl rfl ?_
                              refine o_iald (n := 88) (L := 4) rfl rfl rfl rfl rfl (by omega) (by omega) ?_
                              refine o_i2l (n := 89) rfl rfl ?_
                              refine o_lcmp_gt (n := 93) (t := 111) rfl rfl rfl rfl (fun k89 => ?_) (fun k89 => ?_)
                              · refine o_aload_n (n := 112) rfl rfl rfl ?_
                                refine o_iconst (n := 113) rfl rfl ?_
                                refine o_invi (n := 116) rfl rfl rfl rfl rfl rfl rfl rfl rfl rfl (c8_finds _ (by omega) (by omega)) ?_
                                refine o_iret rfl rfl ?_
                                first
                                  | (exfalso; omega; done)
                                  | (refine ⟨rfl, ?_, ?_, ?_⟩
                                     · subst hh; exact ⟨⟨hS, hR, h6, hP⟩, Isg_c (g := g) (h := g) rfl rfl hsg, Itx_c (g := g) (h := g) rfl rfl rfl rfl htx, Iru_c (g := g) (h := g) (r := r) (by omega) hR (fun _ _ _ => rfl) (fun _ _ _ => rfl) rfl rfl rfl rfl rfl rfl rfl rfl hru, Iwd_c (g := g) (h := g) (by omega) rfl rfl rfl rfl rfl rfl hwd, Inw_c (g := g) (h := g) rfl rfl rfl rfl (fun _ _ _ => rfl) hnw, Ist_c (g := g) (h := g) (r := r) hR rfl rfl (fun _ _ _ => rfl) (fun _ _ _ => rfl) rfl rfl rfl rfl (fun _ _ => rfl) (fun _ _ => rfl) (fun _ _ => rfl) rfl rfl rfl hst, Ish_c (g := g) (h := g) rfl rfl rfl rfl rfl hsh, rfl⟩
                                     · subst hh; rfl
                                     · subst hh; rfl)
                                  | (refine ⟨congrArg (fun z => some (vI z)) ?_, ?_, ?_, ?_⟩
                                     · omega
                                     · subst hh; exact ⟨⟨hS, hR, h6, hP⟩, Isg_c (g := g) (h := g) rfl rfl hsg, Itx_c (g := g) (h := g) rfl rfl rfl rfl htx, Iru_c (g := g) (h := g) (r := r) (by omega) hR (fun _ _ _ => rfl) (fun _ _ _ => rfl) rfl rfl rfl rfl rfl rfl rfl rfl hru, Iwd_c (g := g) (h := g) (by omega) rfl rfl rfl rfl rfl rfl hwd, Inw_c (g := g) (h := g) rfl rfl rfl rfl (fun _ _ _ => rfl) hnw, Ist_c (g := g) (h := g) (r := r) hR rfl rfl (fun _ _ _ => rfl) (fun _ _ _ => rfl) rfl rfl rfl rfl (fun _ _ => rfl) (fun _ _ => rfl) (fun _ _ => rfl) rfl rfl rfl hst, Ish_c (g := g) (h := g) rfl rfl rfl rfl rfl hsh, rfl⟩
                                     · subst hh; rfl
                                     · subst hh; rfl)
                              · refine o_iload (n := 95) rfl rfl rfl ?_
                                refine o_i2l (n := 96) rfl rfl ?_
                                refine o_iload (n := 98) rfl rfl rfl ?_
                                refine o_i2l (n := 99) rfl rfl ?_
                                refine o_laddN (n := 100) rfl rfl (by omega) ?_
                                refine o_aload_n (n := 101) rfl rfl rfl ?_
                                refine of_8_1 (n := 104) hS rfl rfl ?_
                                refine o_iload_n (n := 105) rfl rfl rfl ?_
                                refine o_iald (n := 106) (L := 4) rfl rfl rfl rfl rfl (by omega) (by omega) ?_
                                refine o_i2l (n := 107) rfl rfl ?_
                                refine o_lcmp_le (n := 111) (t := 117) rfl rfl rfl rfl (fun k107 => ?_) (fun k107 => ?_)
                                · refine o_iconst (n := 118) rfl rfl ?_
                                  refine o_istore_6 (n := 120) rfl rfl rfl ?_
                                  exfalso; omega
                                · refine o_aload_n (n := 112) rfl rfl rfl ?_
                                  refine o_iconst (n := 113) rfl rfl ?_
                                  refine o_invi (n := 116) rfl rfl rfl rfl rfl rfl rfl rfl rfl rfl (c8_finds _ (by omega) (by omega)) ?_
                                  refine o_iret rfl rfl ?_
                                  first
                                    | (exfalso; omega; done)
                                    | (refine ⟨rfl, ?_, ?_, ?_⟩
                                       · subst hh; exact ⟨⟨hS, hR, h6, hP⟩, Isg_c (g := g) (h := g) rfl rfl hsg, Itx_c (g := g) (h := g) rfl rfl rfl rfl htx, Iru_c (g := g) (h := g) (r := r) (by omega) hR (fun _ _ _ => rfl) (fun _ _ _ => rfl) rfl rfl rfl rfl rfl rfl rfl rfl hru, Iwd_c (g := g) (h := g) (by omega) rfl rfl rfl rfl rfl rfl hwd, Inw_c (g := g) (h := g) rfl rfl rfl rfl (fun _ _ _ => rfl) hnw, Ist_c (g := g) (h := g) (r := r) hR rfl rfl (fun _ _ _ => rfl) (fun _ _ _ => rfl) rfl rfl rfl rfl (fun _ _ => rfl) (fun _ _ => rfl) (fun _ _ => rfl) rfl rfl rfl hst, Ish_c (g := g) (h := g) rfl rfl rfl rfl rfl hsh, rfl⟩
                                       · subst hh; rfl
                                       · subst hh; rfl)
                                    | (refine ⟨congrArg (fun z => some (vI z)) ?_, ?_, ?_, ?_⟩
                                       · omega
                                       · subst hh; exact ⟨⟨hS, hR, h6, hP⟩, Isg_c (g := g) (h := g) rfl rfl hsg, Itx_c (g := g) (h := g) rfl rfl rfl rfl htx, Iru_c (g := g) (h := g) (r := r) (by omega) hR (fun _ _ _ => rfl) (fun _ _ _ => rfl) rfl rfl rfl rfl rfl rfl rfl rfl hru, Iwd_c (g := g) (h := g) (by omega) rfl rfl rfl rfl rfl rfl hwd, Inw_c (g := g) (h := g) rfl rfl rfl rfl (fun _ _ _ => rfl) hnw, Ist_c (g := g) (h := g) (r := r) hR rfl rfl (fun _ _ _ => rfl) (fun _ _ _ => rfl) rfl rfl rfl rfl (fun _ _ => rfl) (fun _ _ => rfl) (fun _ _ => rfl) rfl rfl rfl hst, Ish_c (g := g) (h := g) rfl rfl rfl rfl rfl hsh, rfl⟩
                                       · subst hh; rfl
                                       · subst hh; rfl)
                      · refine o_aload_n (n := 57) rfl rfl rfl ?_
                        refine o_iconst (n := 58) rfl rfl ?_
                        refine o_invi (n := 61) rfl rfl rfl rfl rfl rfl rfl rfl rfl rfl (c8_finds _ (by omega) (by omega)) ?_
                        refine o_iret rfl rfl ?_
                        first
                          | (exfalso; omega; done)
                          | (refine ⟨rfl, ?_, ?_, ?_⟩
                             · subst hh; exact ⟨⟨hS, hR, h6, hP⟩, Isg_c (g := g) (h := g) rfl rfl hsg, Itx_c (g := g) (h := g) rfl rfl rfl rfl htx, Iru_c (g := g) (h := g) (r := r) (by omega) hR (fun _ _ _ => rfl) (fun _ _ _ => rfl) rfl rfl rfl rfl rfl rfl rfl rfl hru, Iwd_c (g := g) (h := g) (by omega) rfl rfl rfl rfl rfl rfl hwd, Inw_c (g := g) (h := g) rfl rfl rfl rfl (fun _ _ _ => rfl) hnw, Ist_c (g := g) (h := g) (r := r) hR rfl rfl (fun _ _ _ => rfl) (fun _ _ _ => rfl) rfl rfl rfl rfl (fun _ _ => rfl) (fun _ _ => rfl) (fun _ _ => rfl) rfl rfl rfl hst, Ish_c (g := g) (h := g) rfl rfl rfl rfl rfl hsh, rfl⟩
                             · subst hh; rfl
                             · subst hh; rfl)
                          | (refine ⟨congrArg (fun z => some (vI z)) ?_, ?_, ?_, ?_⟩
                             · omega
                             · subst hh; exact ⟨⟨hS, hR, h6, hP⟩, Isg_c (g := g) (h := g) rfl rfl hsg, Itx_c (g := g) (h := g) rfl rfl rfl rfl htx, Iru_c (g := g) (h := g) (r := r) (by omega) hR (fun _ _ _ => rfl) (fun _ _ _ => rfl) rfl rfl rfl rfl rfl rfl rfl rfl hru, Iwd_c (g := g) (h := g) (by omega) rfl rfl rfl rfl rfl rfl hwd, Inw_c (g := g) (h := g) rfl rfl rfl rfl (fun _ _ _ => rfl) hnw, Ist_c (g := g) (h := g) (r := r) hR rfl rfl (fun _ _ _ => rfl) (fun _ _ _ => rfl) rfl rfl rfl rfl (fun _ _ => rfl) (fun _ _ => rfl) (fun _ _ => rfl) rfl rfl rfl hst, Ish_c (g := g) (h := g) rfl rfl rfl rfl rfl hsh, rfl⟩
                             · subst hh; rfl
                             · subst hh; rfl)
                    · refine o_aload_n (n := 36) rfl rfl rfl ?_
                      refine o_iconst (n := 37) rfl rfl ?_
                      refine o_invi (n := 40) rfl rfl rfl rfl rfl rfl rfl rfl rfl rfl (c8_finds _ (by omega) (by omega)) ?_
                      refine o_iret rfl rfl ?_
                      first
                        | (exfalso; omega; done)
                        | (refine ⟨rfl, ?_, ?_, ?_⟩
                           · subst hh; exact ⟨⟨hS, hR, h6, hP⟩, Isg_c (g := g) (h := g) rfl rfl hsg, Itx_c (g := g) (h := g) rfl rfl rfl rfl htx, Iru_c (g := g) (h := g) (r := r) (by omega) hR (fun _ _ _ => rfl) (fun _ _ _ => rfl) rfl rfl rfl rfl rfl rfl rfl rfl hru, Iwd_c (g := g) (h := g) (by omega) rfl rfl rfl rfl rfl rfl hwd, Inw_c (g := g) (h := g) rfl rfl rfl rfl (fun _ _ _ => rfl) hnw, Ist_c (g := g) (h := g) (r := r) hR rfl rfl (fun _ _ _ => rfl) (fun _ _ _ => rfl) rfl rfl rfl rfl (fun _ _ => rfl) (fun _ _ => rfl) (fun _ _ => rfl) rfl rfl rfl hst, Ish_c (g := g) (h := g) rfl rfl rfl rfl rfl hsh, rfl⟩
                           · subst hh; rfl
                           · subst hh; rfl)
                        | (refine ⟨congrArg (fun z => some (vI z)) ?_, ?_, ?_, ?_⟩
                           · omega
                           · subst hh; exact ⟨⟨hS, hR, h6, hP⟩, Isg_c (g := g) (h := g) rfl rfl hsg, Itx_c (g := g) (h := g) rfl rfl rfl rfl htx, Iru_c (g := g) (h := g) (r := r) (by omega) hR (fun _ _ _ => rfl) (fun _ _ _ => rfl) rfl rfl rfl rfl rfl rfl rfl rfl hru, Iwd_c (g := g) (h := g) (by omega) rfl rfl rfl rfl rfl rfl hwd, Inw_c (g := g) (h := g) rfl rfl rfl rfl (fun _ _ _ => rfl) hnw, Ist_c (g := g) (h := g) (r := r) hR rfl rfl (fun _ _ _ => rfl) (fun _ _ _ => rfl) rfl rfl rfl rfl (fun _ _ => rfl) (fun _ _ => rfl) (fun _ _ => rfl) rfl rfl rfl hst, Ish_c (g := g) (h := g) rfl rfl rfl rfl rfl hsh, rfl⟩
                           · subst hh; rfl
                           · subst hh; rfl)
                · refine o_bipush (n := 16) rfl rfl ?_
                  refine o_iret rfl rfl ?_
                  first
                    | (exfalso; omega; done)
                    | (refine ⟨rfl, ?_, ?_, ?_⟩
                       · subst hh; exact ⟨⟨hS, hR, h6, hP⟩, Isg_c (g := g) (h := g) rfl rfl hsg, Itx_c (g := g) (h := g) rfl rfl rfl rfl htx, Iru_c (g := g) (h := g) (r := r) (by omega) hR (fun _ _ _ => rfl) (fun _ _ _ => rfl) rfl rfl rfl rfl rfl rfl rfl rfl hru, Iwd_c (g := g) (h := g) (by omega) rfl rfl rfl rfl rfl rfl hwd, Inw_c (g := g) (h := g) rfl rfl rfl rfl (fun _ _ _ => rfl) hnw, Ist_c (g := g) (h := g) (r := r) hR rfl rfl (fun _ _ _ => rfl) (fun _ _ _ => rfl) rfl rfl rfl rfl (fun _ _ => rfl) (fun _ _ => rfl) (fun _ _ => rfl) rfl rfl rfl hst, Ish_c (g := g) (h := g) rfl rfl rfl rfl rfl hsh, Ila_c (g := g) (h := g) rfl rfl hla⟩
                       · subst hh; rfl
                       · subst hh; rfl)
                    | (refine ⟨congrArg (fun z => some (vI z)) ?_, ?_, ?_, ?_⟩
                       · omega
                       · subst hh; exact ⟨⟨hS, hR, h6, hP⟩, Isg_c (g := g) (h := g) rfl rfl hsg, Itx_c (g := g) (h := g) rfl rfl rfl rfl htx, Iru_c (g := g) (h := g) (r := r) (by omega) hR (fun _ _ _ => rfl) (fun _ _ _ => rfl) rfl rfl rfl rfl rfl rfl rfl rfl hru, Iwd_c (g := g) (h := g) (by omega) rfl rfl rfl rfl rfl rfl hwd, Inw_c (g := g) (h := g) rfl rfl rfl rfl (fun _ _ _ => rfl) hnw, Ist_c (g := g) (h := g) (r := r) hR rfl rfl (fun _ _ _ => rfl) (fun _ _ _ => rfl) rfl rfl rfl rfl (fun _ _ => rfl) (fun _ _ => rfl) (fun _ _ => rfl) rfl rfl rfl hst, Ish_c (g := g) (h := g) rfl rfl rfl rfl rfl hsh, Ila_c (g := g) (h := g) rfl rfl hla⟩
                       · subst hh; rfl
                       · subst hh; rfl)
            · refine o_aload (n := 89) rfl rfl rfl ?_
              refine o_iload (n := 91) rfl rfl rfl ?_
              refine o_iload (n := 93) rfl rfl rfl ?_
              refine o_invi (n := 96) rfl rfl rfl rfl rfl rfl rfl rfl rfl (ok_3 (by omega) (by omega)) (c3_hasItems _ _ _ (by omega) (by omega) (by omega) (by omega)) ?_
              refine o_ifb_ne (n := 99) (t := 105) rfl rfl rfl (fun q96 => ?_) (fun q96 => ?_)
              · refine o_aload (n := 107) rfl rfl rfl ?_
                refine of_3_2 (n := 110) hS rfl rfl (by omega) (by omega) ?_
                refine o_iload_n (n := 111) rfl rfl rfl ?_
                refine o_aload (n := 113) rfl rfl rfl ?_
                refine of_3_2 (n := 116) hS rfl rfl (by omega) (by omega) ?_
                refine o_iload (n := 118) rfl rfl rfl ?_
                refine o_iload (n := 120) rfl rfl rfl ?_
                refine o_acopy (n := 123) (L1 := 60) (L2 := 60) rfl rfl (ok_11 (by omega) (by omega)) (ok_11 (by omega) (by omega)) rfl rfl rfl rfl (by omega) (by omega) (by omega) (by omega) (by omega) rfl ?_
                refine o_iconst (n := 124) rfl rfl ?_
                refine o_iret rfl rfl ?_
                refine q8_of (g := g) (r := r) (fun k hk => by funext x y; unfold gcpy; rw [if_neg (fun z => isM_ne hk (by decide) z.1)]) hI (fun h hh hJ => ?_)
                show Ou 120 0 [vR 8 0, vI a, vI i, vI t, vI j, vI n, vN] [] h _ _
                obtain ⟨jsg1, jsg2, jsg3⟩ := hJ.2.1
                obtain ⟨jtx1, jtx2, jtx3, jtx4⟩ := hJ.2.2.1
                have jru0 : g 7 0 10 = h 8 0 8 := hJ.2.2.2.1.1.1
                have jru1 := hJ.2.2.2.1.2.1.1
                have jwd0 : g 1 0 1 = h 8 0 14 := hJ.2.2.2.2.1.1.1
                have jwd1 := hJ.2.2.2.2.1.2.1.1
                have jwd2 := hJ.2.2.2.2.1.2.2
                have jnw0 : g 0 0 0 = h 27 0 8 := hJ.2.2.2.2.2.1.1.1
                have jnw1 : g 0 0 1 = h 28 0 8 := hJ.2.2.2.2.2.1.1.2.1
                have jnw2 := hJ.2.2.2.2.2.1.2.1
                have jnw3 := hJ.2.2.2.2.2.1.2.2.1
                have jst0 := hJ.2.2.2.2.2.2.1.1
                have jst1 := hJ.2.2.2.2.2.2.1.2.1
                have jst2 := hJ.2.2.2.2.2.2.1.2.2.1
                have jla0 : g 7 0 13 = h 8 0 4 := hJ.2.2.2.2.2.2.2.2
                have jsh_a : (0 ≤ a ∧ a < 4) → (g 3 a 0 = h 17 0 a ∧ -1 ≤ h 17 0 a ∧ h 17 0 a ≤ 2 ∧ g 3 a 1 = h 18 0 a ∧ 0 ≤ h 18 0 a ∧ h 18 0 a ≤ 60) := fun z => by
                  have := hJ.2.2.2.2.2.2.2.1 a z.1 z.2
                  exact ⟨this.1.1, this.1.2.1, this.1.2.2, this.2.1.1, this.2.1.2.1, this.2.1.2.2⟩
                have jsh_t : (0 ≤ t ∧ t < 4) → (g 3 t 0 = h 17 0 t ∧ -1 ≤ h 17 0 t ∧ h 17 0 t ≤ 2 ∧ g 3 t 1 = h 18 0 t ∧ 0 ≤ h 18 0 t ∧ h 18 0 t ≤ 60) := fun z => by
                  have := hJ.2.2.2.2.2.2.2.1 t z.1 z.2
                  exact ⟨this.1.1, this.1.2.1, this.1.2.2, this.2.1.1, this.2.1.2.1, this.2.1.2.2⟩
                refine o_iload_n (n := 1) rfl rfl rfl ?_
                refine o_invsi (n := 4) rfl rfl rfl rfl rfl rfl (c8_isSheet _) ?_
                refine o_ifb_eq (n := 7) (t := 14) rfl rfl rfl (fun k4 => ?_) (fun k4 => ?_)
                · refine o_bipush (n := 16) rfl rfl ?_
                  refine o_iret rfl rfl ?_
                  first
                    | (exfalso; omega; done)
                    | (refine ⟨rfl, ?_, ?_, ?_⟩
                       · subst hh; exact ⟨⟨hS, hR, h6, hP⟩, Isg_c (g := g) (h := g) rfl rfl hsg, Itx_c (g := g) (h := g) rfl rfl rfl rfl htx, Iru_c (g := g) (h := g) (r := r) (by omega) hR (fun _ _ _ => rfl) (fun _ _ _ => rfl) rfl rfl rfl rfl rfl rfl rfl rfl hru, Iwd_c (g := g) (h := g) (by omega) rfl rfl rfl rfl rfl rfl hwd, Inw_c (g := g) (h := g) rfl rfl rfl rfl (fun _ _ _ => rfl) hnw, Ist_c (g := g) (h := g) (r := r) hR rfl rfl (fun _ _ _ => rfl) (fun _ _ _ => rfl) rfl rfl rfl rfl (fun _ _ => rfl) (fun _ _ => rfl) (fun _ _ => rfl) rfl rfl rfl hst, Ish_c (g := g) (h := g) rfl rfl rfl rfl rfl hsh, Ila_c (g := g) (h := g) rfl rfl hla⟩
                       · subst hh; rfl
                       · subst hh; rfl)
                    | (refine ⟨congrArg (fun z => some (vI z)) ?_, ?_, ?_, ?_⟩
                       · omega
                       · subst hh; exact ⟨⟨hS, hR, h6, hP⟩, Isg_c (g := g) (h := g) rfl rfl hsg, Itx_c (g := g) (h := g) rfl rfl rfl rfl htx, Iru_c (g := g) (h := g) (r := r) (by omega) hR (fun _ _ _ => rfl) (fun _ _ _ => rfl) rfl rfl rfl rfl rfl rfl rfl rfl hru, Iwd_c (g := g) (h := g) (by omega) rfl rfl rfl rfl rfl rfl hwd, Inw_c (g := g) (h := g) rfl rfl rfl rfl (fun _ _ _ => rfl) hnw, Ist_c (g := g) (h := g) (r := r) hR rfl rfl (fun _ _ _ => rfl) (fun _ _ _ => rfl) rfl rfl rfl rfl (fun _ _ => rfl) (fun _ _ => rfl) (fun _ _ => rfl) rfl rfl rfl hst, Ish_c (g := g) (h := g) rfl rfl rfl rfl rfl hsh, Ila_c (g := g) (h := g) rfl rfl hla⟩
                       · subst hh; rfl
                       · subst hh; rfl)
                · refine o_iload_n (n := 8) rfl rfl rfl ?_
                  refine o_invsi (n := 11) rfl rfl rfl rfl rfl rfl (c8_isSheet _) ?_
                  refine o_ifb_ne (n := 14) (t := 17) rfl rfl rfl (fun k11 => ?_) (fun k11 => ?_)
                  · refine o_aload_n (n := 18) rfl rfl rfl ?_
                    refine of_8_0 (n := 21) hS rfl rfl ?_
                    refine o_iload_n (n := 22) rfl rfl rfl ?_
                    refine o_iald (n := 23) (L := 4) rfl rfl rfl rfl rfl (by omega) (by omega) ?_
                    refine o_if_lt (n := 26) (t := 35) rfl rfl rfl (fun k23 => ?_) (fun k23 => ?_)
                    · refine o_aload_n (n := 36) rfl rfl rfl ?_
                      refine o_iconst (n := 37) rfl rfl ?_
                      refine o_invi (n := 40) rfl rfl rfl rfl rfl rfl rfl rfl rfl rfl (c8_finds _ (by omega) (by omega)) ?_
                      refine o_iret rfl rfl ?_
                      first
                        | (exfalso; omega; done)
                        | (refine ⟨rfl, ?_, ?_, ?_⟩
                           · subst hh; exact ⟨⟨hS, hR, h6, hP⟩, Isg_c (g := g) (h := g) rfl rfl hsg, Itx_c (g := g) (h := g) rfl rfl rfl rfl htx, Iru_c (g := g) (h := g) (r := r) (by omega) hR (fun _ _ _ => rfl) (fun _ _ _ => rfl) rfl rfl rfl rfl rfl rfl rfl rfl hru, Iwd_c (g := g) (h := g) (by omega) rfl rfl rfl rfl rfl rfl hwd, Inw_c (g := g) (h := g) rfl rfl rfl rfl (fun _ _ _ => rfl) hnw, Ist_c (g := g) (h := g) (r := r) hR rfl rfl (fun _ _ _ => rfl) (fun _ _ _ => rfl) rfl rfl rfl rfl (fun _ _ => rfl) (fun _ _ => rfl) (fun _ _ => rfl) rfl rfl rfl hst, Ish_c (g := g) (h := g) rfl rfl rfl rfl rfl hsh, rfl⟩
                           · subst hh; rfl
                           · subst hh; rfl)
                        | (refine ⟨congrArg (fun z => some (vI z)) ?_, ?_, ?_, ?_⟩
                           · omega
                           · subst hh; exact ⟨⟨hS, hR, h6, hP⟩, Isg_c (g := g) (h := g) rfl rfl hsg, Itx_c (g := g) (h := g) rfl rfl rfl rfl htx, Iru_c (g := g) (h := g) (r := r) (by omega) hR (fun _ _ _ => rfl) (fun _ _ _ => rfl) rfl rfl rfl rfl rfl rfl rfl rfl hru, Iwd_c (g := g) (h := g) (by omega) rfl rfl rfl rfl rfl rfl hwd, Inw_c (g := g) (h := g) rfl rfl rfl rfl (fun _ _ _ => rfl) hnw, Ist_c (g := g) (h := g) (r := r) hR rfl rfl (fun _ _ _ => rfl) (fun _ _ _ => rfl) rfl rfl rfl rfl (fun _ _ => rfl) (fun _ _ => rfl) (fun _ _ => rfl) rfl rfl rfl hst, Ish_c (g := g) (h := g) rfl rfl rfl rfl rfl hsh, rfl⟩
                           · subst hh; rfl
                           · subst hh; rfl)
                    · refine o_aload_n (n := 27) rfl rfl rfl ?_
                      refine of_8_0 (n := 30) hS rfl rfl ?_
                      refine o_iload_n (n := 31) rfl rfl rfl ?_
                      refine o_iald (n := 32) (L := 4) rfl rfl rfl rfl rfl (by omega) (by omega) ?_
                      refine o_if_ge (n := 35) (t := 41) rfl rfl rfl (fun k32 => ?_) (fun k32 => ?_)
                      · refine o_aload_n (n := 42) rfl rfl rfl ?_
                        refine of_8_0 (n := 45) hS rfl rfl ?_
                        refine o_iload_n (n := 46) rfl rfl rfl ?_
                        refine o_iald (n := 47) (L := 4) rfl rfl rfl rfl rfl (by omega) (by omega) ?_
                        refine o_aload_n (n := 48) rfl rfl rfl ?_
                        refine of_8_0 (n := 51) hS rfl rfl ?_
                        refine o_iload_n (n := 52) rfl rfl rfl ?_
                        refine o_iald (n := 53) (L := 4) rfl rfl rfl rfl rfl (by omega) (by omega) ?_
                        refine o_icmp_eq (n := 56) (t := 62) rfl rfl rfl (fun k53 => ?_) (fun k53 => ?_)
                        · refine o_iload_n (n := 63) rfl rfl rfl ?_
                          refine o_if_lt (n := 66) (t := 111) rfl rfl rfl (fun k63 => ?_) (fun k63 => ?_)
                          · refine o_aload_n (n := 112) rfl rfl rfl ?_
                            refine o_iconst (n := 113) rfl rfl ?_
                            refine o_invi (n := 116) rfl rfl rfl rfl rfl rfl rfl rfl rfl rfl (c8_finds _ (by omega) (by omega)) ?_
                            refine o_iret rfl rfl ?_
                            first
                              | (exfalso; omega; done)
                              | (refine ⟨rfl, ?_, ?_, ?_⟩
                                 · subst hh; exact ⟨⟨hS, hR, h6, hP⟩, Isg_c (g := g) (h := g) rfl rfl hsg, Itx_c (g := g) (h := g) rfl rfl rfl rfl htx, Iru_c (g := g) (h := g) (r := r) (by omega) hR (fun _ _ _ => rfl) (fun _ _ _ => rfl) rfl rfl rfl rfl rfl rfl rfl rfl hru, Iwd_c (g := g) (h := g) (by omega) rfl rfl rfl rfl rfl rfl hwd, Inw_c (g := g) (h := g) rfl rfl rfl rfl (fun _ _ _ => rfl) hnw, Ist_c (g := g) (h := g) (r := r) hR rfl rfl (fun _ _ _ => rfl) (fun _ _ _ => rfl) rfl rfl rfl rfl (fun _ _ => rfl) (fun _ _ => rfl) (fun _ _ => rfl) rfl rfl rfl hst, Ish_c (g := g) (h := g) rfl rfl rfl rfl rfl hsh, rfl⟩
                                 · subst hh; rfl
                                 · subst hh; rfl)
                              | (refine ⟨congrArg (fun z => some (vI z)) ?_, ?_, ?_, ?_⟩
                                 · omega
                                 · subst hh; exact ⟨⟨hS, hR, h6, hP⟩, Isg_c (g := g) (h := g) rfl rfl hsg, Itx_c (g := g) (h := g) rfl rfl rfl rfl htx, Iru_c (g := g) (h := g) (r := r) (by omega) hR (fun _ _ _ => rfl) (fun _ _ _ => rfl) rfl rfl rfl rfl rfl rfl rfl rfl hru, Iwd_c (g := g) (h := g) (by omega) rfl rfl rfl rfl rfl rfl hwd, Inw_c (g := g) (h := g) rfl rfl rfl rfl (fun _ _ _ => rfl) hnw, Ist_c (g := g) (h := g) (r := r) hR rfl rfl (fun _ _ _ => rfl) (fun _ _ _ => rfl) rfl rfl rfl rfl (fun _ _ => rfl) (fun _ _ => rfl) (fun _ _ => rfl) rfl rfl rfl hst, Ish_c (g := g) (h := g) rfl rfl rfl rfl rfl hsh, rfl⟩
                                 · subst hh; rfl
                                 · subst hh; rfl)
                          · refine o_iload (n := 68) rfl rfl rfl ?_
                            refine o_if_lt (n := 71) (t := 111) rfl rfl rfl (fun k68 => ?_) (fun k68 => ?_)
                            · refine o_aload_n (n := 112) rfl rfl rfl ?_
                              refine o_iconst (n := 113) rfl rfl ?_
                              refine o_invi (n := 116) rfl rfl rfl rfl rfl rfl rfl rfl rfl rfl (c8_finds _ (by omega) (by omega)) ?_
                              refine o_iret rfl rfl ?_
                              first
                                | (exfalso; omega; done)
                                | (refine ⟨rfl, ?_, ?_, ?_⟩
                                   · subst hh; exact ⟨⟨hS, hR, h6, hP⟩, Isg_c (g := g) (h := g) rfl rfl hsg, Itx_c (g := g) (h := g) rfl rfl rfl rfl htx, Iru_c (g := g) (h := g) (r := r) (by omega) hR (fun _ _ _ => rfl) (fun _ _ _ => rfl) rfl rfl rfl rfl rfl rfl rfl rfl hru, Iwd_c (g := g) (h := g) (by omega) rfl rfl rfl rfl rfl rfl hwd, Inw_c (g := g) (h := g) rfl rfl rfl rfl (fun _ _ _ => rfl) hnw, Ist_c (g := g) (h := g) (r := r) hR rfl rfl (fun _ _ _ => rfl) (fun _ _ _ => rfl) rfl rfl rfl rfl (fun _ _ => rfl) (fun _ _ => rfl) (fun _ _ => rfl) rfl rfl rfl hst, Ish_c (g := g) (h := g) rfl rfl rfl rfl rfl hsh, rfl⟩
                                   · subst hh; rfl
                                   · subst hh; rfl)
                                | (refine ⟨congrArg (fun z => some (vI z)) ?_, ?_, ?_, ?_⟩
                                   · omega
                                   · subst hh; exact ⟨⟨hS, hR, h6, hP⟩, Isg_c (g := g) (h := g) rfl rfl hsg, Itx_c (g := g) (h := g) rfl rfl rfl rfl htx, Iru_c (g := g) (h := g) (r := r) (by omega) hR (fun _ _ _ => rfl) (fun _ _ _ => rfl) rfl rfl rfl rfl rfl rfl rfl rfl hru, Iwd_c (g := g) (h := g) (by omega) rfl rfl rfl rfl rfl rfl hwd, Inw_c (g := g) (h := g) rfl rfl rfl rfl (fun _ _ _ => rfl) hnw, Ist_c (g := g) (h := g) (r := r) hR rfl rfl (fun _ _ _ => rfl) (fun _ _ _ => rfl) rfl rfl rfl rfl (fun _ _ => rfl) (fun _ _ => rfl) (fun _ _ => rfl) rfl rfl rfl hst, Ish_c (g := g) (h := g) rfl rfl rfl rfl rfl hsh, rfl⟩
                                   · subst hh; rfl
                                   · subst hh; rfl)
                            · refine o_iload (n := 73) rfl rfl rfl ?_
                              refine o_if_lt (n := 76) (t := 111) rfl rfl rfl (fun k73 => ?_) (fun k73 => ?_)
                              · refine o_aload_n (n := 112) rfl rfl rfl ?_
                                refine o_iconst (n := 113) rfl rfl ?_
                                refine o_invi (n := 116) rfl rfl rfl rfl rfl rfl rfl rfl rfl rfl (c8_finds _ (by omega) (by omega)) ?_
                                refine o_iret rfl rfl ?_
                                first
                                  | (exfalso; omega; done)
                                  | (refine ⟨rfl, ?_, ?_, ?_⟩
                                     · subst hh; exact ⟨⟨hS, hR, h6, hP⟩, Isg_c (g := g) (h := g) rfl rfl hsg, Itx_c (g := g) (h := g) rfl rfl rfl rfl htx, Iru_c (g := g) (h := g) (r := r) (by omega) hR (fun _ _ _ => rfl) (fun _ _ _ => rfl) rfl rfl rfl rfl rfl rfl rfl rfl hru, Iwd_c (g := g) (h := g) (by omega) rfl rfl rfl rfl rfl rfl hwd, Inw_c (g := g) (h := g) rfl rfl rfl rfl (fun _ _ _ => rfl) hnw, Ist_c (g := g) (h := g) (r := r) hR rfl rfl (fun _ _ _ => rfl) (fun _ _ _ => rfl) rfl rfl rfl rfl (fun _ _ => rfl) (fun _ _ => rfl) (fun _ _ => rfl) rfl rfl rfl hst, Ish_c (g := g) (h := g) rfl rfl rfl rfl rfl hsh, rfl⟩
                                     · subst hh; rfl
                                     · subst hh; rfl)
                                  | (refine ⟨congrArg (fun z => some (vI z)) ?_, ?_, ?_, ?_⟩
                                     · omega
                                     · subst hh; exact ⟨⟨hS, hR, h6, hP⟩, Isg_c (g := g) (h := g) rfl rfl hsg, Itx_c (g := g) (h := g) rfl rfl rfl rfl htx, Iru_c (g := g) (h := g) (r := r) (by omega) hR (fun _ _ _ => rfl) (fun _ _ _ => rfl) rfl rfl rfl rfl rfl rfl rfl rfl hru, Iwd_c (g := g) (h := g) (by omega) rfl rfl rfl rfl rfl rfl hwd, Inw_c (g := g) (h := g) rfl rfl rfl rfl (fun _ _ _ => rfl) hnw, Ist_c (g := g) (h := g) (r := r) hR rfl rfl (fun _ _ _ => rfl) (fun _ _ _ => rfl) rfl rfl rfl rfl (fun _ _ => rfl) (fun _ _ => rfl) (fun _ _ => rfl) rfl rfl rfl hst, Ish_c (g := g) (h := g) rfl rfl rfl rfl rfl hsh, rfl⟩
                                     · subst hh; rfl
                                     · subst hh; rfl)
                              · refine o_iload_n (n := 77) rfl rfl rfl ?_
                                refine o_i2l (n := 78) rfl rfl ?_
                                refine o_iload (n := 80) rfl rfl rfl ?_
                                refine o_i2l (n := 81) rfl rfl ?_
                                refine o_laddN (n := 82) rfl rfl (by omega) ?_
                                refine o_aload_n (n := 83) rfl rfl rfl ?_
                                refine of_8_1 (n := 86) hS rfl rfl ?_
                                refine o_iload_n (n := 87) rfl rfl rfl ?_
                                refine o_iald (n := 88) (L := 4) rfl rfl rfl rfl rfl (by omega) (by omega) ?_
                                refine o_i2l (n := 89) rfl rfl ?_
                                refine o_lcmp_gt (n := 93) (t := 111) rfl rfl rfl rfl (fun k89 => ?_) (fun k89 => ?_)
                                · refine o_aload_n (n := 112) rfl rfl rfl ?_
                                  refine o_iconst (n := 113) rfl rfl ?_
                                  refine o_invi (n := 116) rfl rfl rfl rfl rfl rfl rfl rfl rfl rfl (c8_finds _ (by omega) (by omega)) ?_
                                  refine o_iret rfl rfl ?_
                                  first
                                    | (exfalso; omega; done)
                                    | (refine ⟨rfl, ?_, ?_, ?_⟩
                                       · subst hh; exact ⟨⟨hS, hR, h6, hP⟩, Isg_c (g := g) (h := g) rfl rfl hsg, Itx_c (g := g) (h := g) rfl rfl rfl rfl htx, Iru_c (g := g) (h := g) (r := r) (by omega) hR (fun _ _ _ => rfl) (fun _ _ _ => rfl) rfl rfl rfl rfl rfl rfl rfl rfl hru, Iwd_c (g := g) (h := g) (by omega) rfl rfl rfl rfl rfl rfl hwd, Inw_c (g := g) (h := g) rfl rfl rfl rfl (fun _ _ _ => rfl) hnw, Ist_c (g := g) (h := g) (r := r) hR rfl rfl (fun _ _ _ => rfl) (fun _ _ _ => rfl) rfl rfl rfl rfl (fun _ _ => rfl) (fun _ _ => rfl) (fun _ _ => rfl) rfl rfl rfl hst, Ish_c (g := g) (h := g) rfl rfl rfl rfl rfl hsh, rfl⟩
                                       · subst hh; rfl
                                       · subst hh; rfl)
                                    | (refine ⟨congrArg (fun z => some (vI z)) ?_, ?_, ?_, ?_⟩
                                       · omega
                                       · subst hh; exact ⟨⟨hS, hR, h6, hP⟩, Isg_c (g := g) (h := g) rfl rfl hsg, Itx_c (g := g) (h := g) rfl rfl rfl rfl htx, Iru_c (g := g) (h := g) (r := r) (by omega) hR (fun _ _ _ => rfl) (fun _ _ _ => rfl) rfl rfl rfl rfl rfl rfl rfl rfl hru, Iwd_c (g := g) (h := g) (by omega) rfl rfl rfl rfl rfl rfl hwd, Inw_c (g := g) (h := g) rfl rfl rfl rfl (fun _ _ _ => rfl) hnw, Ist_c (g := g) (h := g) (r := r) hR rfl rfl (fun _ _ _ => rfl) (fun _ _ _ => rfl) rfl rfl rfl rfl (fun _ _ => rfl) (fun _ _ => rfl) (fun _ _ => rfl) rfl rfl rfl hst, Ish_c (g := g) (h := g) rfl rfl rfl rfl rfl hsh, rfl⟩
                                       · subst hh; rfl
                                       · subst hh; rfl)
                                · refine o_iload (n := 95) rfl rfl rfl ?_
                                  refine o_i2l (n := 96) rfl rfl ?_
                                  refine o_iload (n := 98) rfl rfl rfl ?_
                                  refine o_i2l (n := 99) rfl rfl ?_
                                  refine o_laddN (n := 100) rfl rfl (by omega) ?_
                                  refine o_aload_n (n := 101) rfl rfl rfl ?_
                                  refine of_8_1 (n := 104) hS rfl rfl ?_
                                  refine o_iload_n (n := 105) rfl rfl rfl ?_
                                  refine o_iald (n := 106) (L := 4) rfl rfl rfl rfl rfl (by omega) (by omega) ?_
                                  refine o_i2l (n := 107) rfl rfl ?_
                                  refine o_lcmp_le (n := 111) (t := 117) rfl rfl rfl rfl (fun k107 => ?_) (fun k107 => ?_)
                                  · refine o_iconst (n := 118) rfl rfl ?_
                                    refine o_istore_6 (n := 120) rfl rfl rfl ?_
                                    first
                                      | (exfalso; omega; done)
                                      | (obtain ⟨k2, v2, g2, r2, e1, e2, e3, e4, e5⟩ := l8_mv1 (h := h) (a := a) (i := i) (t := t) (j := j) (n := n) hS (by omega) (by omega) (by omega) (by omega) (by omega) (by omega) (by omega) (by omega) (by omega) n.toNat 0 h (by omega) (by omega) (fun _ _ => rfl) (fun x x0 x1 => by omega)
                                         subst e2; subst e3
                                         have hna : i + n ≤ g 18 0 a := by omega
                                         subst hh
                                         have eg : ∀ k, k ≠ 3 → k ≠ 11 → k ≠ 17 → k ≠ 18 → k ≠ 19 → k ≠ 20 → g2 k = g k := fun k a1 a2 a3 a4 a5 a6 => (e4 k a5 a6).trans (by funext x y; unfold gcpy; rw [if_neg (fun z => a2 z.1)])
                                         refine ⟨k2, _, _, _, e1, rfl, Iv_sh eg (fun s s0 s1 => ?_) hI, eg 34 (by decide) (by decide) (by decide) (by decide) (by decide) (by decide), eg 35 (by decide) (by decide) (by decide) (by decide) (by decide) (by decide)⟩
                                         have hs := hsh s s0 s1
                                         have ha := hsh a (by omega) (by omega)
                                         rw [e4 3 (by decide) (by decide), e4 17 (by decide) (by decide), e4 18 (by decide) (by decide), e4 11 (by decide) (by decide)]
                                         refine ⟨hs.1, hs.2.1, fun x x0 x1 => ?_⟩
                                         have x1 : x < g 18 0 s := x1
                                         rw [e5]
                                         by_cases z : s = t ∧ j ≤ x ∧ x < j + n
                                         · rw [cif_t (by omega)]
                                           show gcpy g 11 a i 11 t j n 11 s x = g 19 0 (60 * a + i + (60 * s + x - (60 * t + j)))
                                           unfold gcpy
                                           rw [if_pos ⟨rfl, z⟩, ha.2.2 (i + (x - j)) (by omega) (by omega), show 60 * a + (i + (x - j)) = 60 * a + i + (60 * s + x - (60 * t + j)) by omega]
                                         · rw [cif_f (by omega)]
                                           show gcpy g 11 a i 11 t j n 11 s x = g 19 0 (60 * s + x)
                                           unfold gcpy
                                           rw [if_neg (fun w => z w.2)]
                                           exact hs.2.2 x x0 x1)
                                  · refine o_aload_n (n := 112) rfl rfl rfl ?_
                                    refine o_iconst (n := 113) rfl rfl ?_
                                    refine o_invi (n := 116) rfl rfl rfl rfl rfl rfl rfl rfl rfl rfl (c8_finds _ (by omega) (by omega)) ?_
                                    refine o_iret rfl rfl ?_
                                    first
                                      | (exfalso; omega; done)
                                      | (refine ⟨rfl, ?_, ?_, ?_⟩
                                         · subst hh; exact ⟨⟨hS, hR, h6, hP⟩, Isg_c (g := g) (h := g) rfl rfl hsg, Itx_c (g := g) (h := g) rfl rfl rfl rfl htx, Iru_c (g := g) (h := g) (r := r) (by omega) hR (fun _ _ _ => rfl) (fun _ _ _ => rfl) rfl rfl rfl rfl rfl rfl rfl rfl hru, Iwd_c (g := g) (h := g) (by omega) rfl rfl rfl rfl rfl rfl hwd, Inw_c (g := g) (h := g) rfl rfl rfl rfl (fun _ _ _ => rfl) hnw, Ist_c (g := g) (h := g) (r := r) hR rfl rfl (fun _ _ _ => rfl) (fun _ _ _ => rfl) rfl rfl rfl rfl (fun _ _ => rfl) (fun _ _ => rfl) (fun _ _ => rfl) rfl rfl rfl hst, Ish_c (g := g) (h := g) rfl rfl rfl rfl rfl hsh, rfl⟩
                                         · subst hh; rfl
                                         · subst hh; rfl)
                                      | (refine ⟨congrArg (fun z => some (vI z)) ?_, ?_, ?_, ?_⟩
                                         · omega
                                         · subst hh; exact ⟨⟨hS, hR, h6, hP⟩, Isg_c (g := g) (h := g) rfl rfl hsg, Itx_c (g := g) (h := g) rfl rfl rfl rfl htx, Iru_c (g := g) (h := g) (r := r) (by omega) hR (fun _ _ _ => rfl) (fun _ _ _ => rfl) rfl rfl rfl rfl rfl rfl rfl rfl hru, Iwd_c (g := g) (h := g) (by omega) rfl rfl rfl rfl rfl rfl hwd, Inw_c (g := g) (h := g) rfl rfl rfl rfl (fun _ _ _ => rfl) hnw, Ist_c (g := g) (h := g) (r := r) hR rfl rfl (fun _ _ _ => rfl) (fun _ _ _ => rfl) rfl rfl rfl rfl (fun _ _ => rfl) (fun _ _ => rfl) (fun _ _ => rfl) rfl rfl rfl hst, Ish_c (g := g) (h := g) rfl rfl rfl rfl rfl hsh, rfl⟩
                                         · subst hh; rfl
                                         · subst hh; rfl)
                        · refine o_aload_n (n := 57) rfl rfl rfl ?_
                          refine o_iconst (n := 58) rfl rfl ?_
                          refine o_invi (n := 61) rfl rfl rfl rfl rfl rfl rfl rfl rfl rfl (c8_finds _ (by omega) (by omega)) ?_
                          refine o_iret rfl rfl ?_
                          first
                            | (exfalso; omega; done)
                            | (refine ⟨rfl, ?_, ?_, ?_⟩
                               · subst hh; exact ⟨⟨hS, hR, h6, hP⟩, Isg_c (g := g) (h := g) rfl rfl hsg, Itx_c (g := g) (h := g) rfl rfl rfl rfl htx, Iru_c (g := g) (h := g) (r := r) (by omega) hR (fun _ _ _ => rfl) (fun _ _ _ => rfl) rfl rfl rfl rfl rfl rfl rfl rfl hru, Iwd_c (g := g) (h := g) (by omega) rfl rfl rfl rfl rfl rfl hwd, Inw_c (g := g) (h := g) rfl rfl rfl rfl (fun _ _ _ => rfl) hnw, Ist_c (g := g) (h := g) (r := r) hR rfl rfl (fun _ _ _ => rfl) (fun _ _ _ => rfl) rfl rfl rfl rfl (fun _ _ => rfl) (fun _ _ => rfl) (fun _ _ => rfl) rfl rfl rfl hst, Ish_c (g := g) (h := g) rfl rfl rfl rfl rfl hsh, rfl⟩
                               · subst hh; rfl
                               · subst hh; rfl)
                            | (refine ⟨congrArg (fun z => some (vI z)) ?_, ?_, ?_, ?_⟩
                               · omega
                               · subst hh; exact ⟨⟨hS, hR, h6, hP⟩, Isg_c (g := g) (h := g) rfl rfl hsg, Itx_c (g := g) (h := g) rfl rfl rfl rfl htx, Iru_c (g := g) (h := g) (r := r) (by omega) hR (fun _ _ _ => rfl) (fun _ _ _ => rfl) rfl rfl rfl rfl rfl rfl rfl rfl hru, Iwd_c (g := g) (h := g) (by omega) rfl rfl rfl rfl rfl rfl hwd, Inw_c (g := g) (h := g) rfl rfl rfl rfl (fun _ _ _ => rfl) hnw, Ist_c (g := g) (h := g) (r := r) hR rfl rfl (fun _ _ _ => rfl) (fun _ _ _ => rfl) rfl rfl rfl rfl (fun _ _ => rfl) (fun _ _ => rfl) (fun _ _ => rfl) rfl rfl rfl hst, Ish_c (g := g) (h := g) rfl rfl rfl rfl rfl hsh, rfl⟩
                               · subst hh; rfl
                               · subst hh; rfl)
                      · refine o_aload_n (n := 36) rfl rfl rfl ?_
                        refine o_iconst (n := 37) rfl rfl ?_
                        refine o_invi (n := 40) rfl rfl rfl rfl rfl rfl rfl rfl rfl rfl (c8_finds _ (by omega) (by omega)) ?_
                        refine o_iret rfl rfl ?_
                        first
                          | (exfalso; omega; done)
                          | (refine ⟨rfl, ?_, ?_, ?_⟩
                             · subst hh; exact ⟨⟨hS, hR, h6, hP⟩, Isg_c (g := g) (h := g) rfl rfl hsg, Itx_c (g := g) (h := g) rfl rfl rfl rfl htx, Iru_c (g := g) (h := g) (r := r) (by omega) hR (fun _ _ _ => rfl) (fun _ _ _ => rfl) rfl rfl rfl rfl rfl rfl rfl rfl hru, Iwd_c (g := g) (h := g) (by omega) rfl rfl rfl rfl rfl rfl hwd, Inw_c (g := g) (h := g) rfl rfl rfl rfl (fun _ _ _ => rfl) hnw, Ist_c (g := g) (h := g) (r := r) hR rfl rfl (fun _ _ _ => rfl) (fun _ _ _ => rfl) rfl rfl rfl rfl (fun _ _ => rfl) (fun _ _ => rfl) (fun _ _ => rfl) rfl rfl rfl hst, Ish_c (g := g) (h := g) rfl rfl rfl rfl rfl hsh, rfl⟩
                             · subst hh; rfl
                             · subst hh; rfl)
                          | (refine ⟨congrArg (fun z => some (vI z)) ?_, ?_, ?_, ?_⟩
                             · omega
                             · subst hh; exact ⟨⟨hS, hR, h6, hP⟩, Isg_c (g := g) (h := g) rfl rfl hsg, Itx_c (g := g) (h := g) rfl rfl rfl rfl htx, Iru_c (g := g) (h := g) (r := r) (by omega) hR (fun _ _ _ => rfl) (fun _ _ _ => rfl) rfl rfl rfl rfl rfl rfl rfl rfl hru, Iwd_c (g := g) (h := g) (by omega) rfl rfl rfl rfl rfl rfl hwd, Inw_c (g := g) (h := g) rfl rfl rfl rfl (fun _ _ _ => rfl) hnw, Ist_c (g := g) (h := g) (r := r) hR rfl rfl (fun _ _ _ => rfl) (fun _ _ _ => rfl) rfl rfl rfl rfl (fun _ _ => rfl) (fun _ _ => rfl) (fun _ _ => rfl) rfl rfl rfl hst, Ish_c (g := g) (h := g) rfl rfl rfl rfl rfl hsh, rfl⟩
                             · subst hh; rfl
                             · subst hh; rfl)
                  · refine o_bipush (n := 16) rfl rfl ?_
                    refine o_iret rfl rfl ?_
                    first
                      | (exfalso; omega; done)
                      | (refine ⟨rfl, ?_, ?_, ?_⟩
                         · subst hh; exact ⟨⟨hS, hR, h6, hP⟩, Isg_c (g := g) (h := g) rfl rfl hsg, Itx_c (g := g) (h := g) rfl rfl rfl rfl htx, Iru_c (g := g) (h := g) (r := r) (by omega) hR (fun _ _ _ => rfl) (fun _ _ _ => rfl) rfl rfl rfl rfl rfl rfl rfl rfl hru, Iwd_c (g := g) (h := g) (by omega) rfl rfl rfl rfl rfl rfl hwd, Inw_c (g := g) (h := g) rfl rfl rfl rfl (fun _ _ _ => rfl) hnw, Ist_c (g := g) (h := g) (r := r) hR rfl rfl (fun _ _ _ => rfl) (fun _ _ _ => rfl) rfl rfl rfl rfl (fun _ _ => rfl) (fun _ _ => rfl) (fun _ _ => rfl) rfl rfl rfl hst, Ish_c (g := g) (h := g) rfl rfl rfl rfl rfl hsh, Ila_c (g := g) (h := g) rfl rfl hla⟩
                         · subst hh; rfl
                         · subst hh; rfl)
                      | (refine ⟨congrArg (fun z => some (vI z)) ?_, ?_, ?_, ?_⟩
                         · omega
                         · subst hh; exact ⟨⟨hS, hR, h6, hP⟩, Isg_c (g := g) (h := g) rfl rfl hsg, Itx_c (g := g) (h := g) rfl rfl rfl rfl htx, Iru_c (g := g) (h := g) (r := r) (by omega) hR (fun _ _ _ => rfl) (fun _ _ _ => rfl) rfl rfl rfl rfl rfl rfl rfl rfl hru, Iwd_c (g := g) (h := g) (by omega) rfl rfl rfl rfl rfl rfl hwd, Inw_c (g := g) (h := g) rfl rfl rfl rfl (fun _ _ _ => rfl) hnw, Ist_c (g := g) (h := g) (r := r) hR rfl rfl (fun _ _ _ => rfl) (fun _ _ _ => rfl) rfl rfl rfl rfl (fun _ _ => rfl) (fun _ _ => rfl) (fun _ _ => rfl) rfl rfl rfl hst, Ish_c (g := g) (h := g) rfl rfl rfl rfl rfl hsh, Ila_c (g := g) (h := g) rfl rfl hla⟩
                         · subst hh; rfl
                         · subst hh; rfl)
              · refine o_aload_n (n := 100) rfl rfl rfl ?_
                refine o_iconst (n := 101) rfl rfl ?_
                refine o_invi (n := 104) rfl rfl rfl rfl rfl rfl rfl rfl rfl rfl (c7_found _ (by omega) (by omega)) ?_
                refine o_iret rfl rfl ?_
                refine q8_of (g := g) (r := r) (fun k hk => by first | rfl | exact gset_kf (isM_ne hk (by decide)) | exact (gset_kf (isM_ne hk (by decide))).trans (gset_kf (isM_ne hk (by decide))) | exact (gset_kf (isM_ne hk (by decide))).trans ((gset_kf (isM_ne hk (by decide))).trans (gset_kf (isM_ne hk (by decide)))) | exact (gset_kf (isM_ne hk (by decide))).trans ((gset_kf (isM_ne hk (by decide))).trans ((gset_kf (isM_ne hk (by decide))).trans (gset_kf (isM_ne hk (by decide)))))) hI (fun h hh hJ => ?_)
                show Ou 120 0 [vR 8 0, vI a, vI i, vI t, vI j, vI n, vN] [] h _ _
                obtain ⟨jsg1, jsg2, jsg3⟩ := hJ.2.1
                obtain ⟨jtx1, jtx2, jtx3, jtx4⟩ := hJ.2.2.1
                have jru0 : g 7 0 10 = h 8 0 8 := hJ.2.2.2.1.1.1
                have jru1 := hJ.2.2.2.1.2.1.1
                have jwd0 : g 1 0 1 = h 8 0 14 := hJ.2.2.2.2.1.1.1
                have jwd1 := hJ.2.2.2.2.1.2.1.1
                have jwd2 := hJ.2.2.2.2.1.2.2
                have jnw0 : g 0 0 0 = h 27 0 8 := hJ.2.2.2.2.2.1.1.1
                have jnw1 : g 0 0 1 = h 28 0 8 := hJ.2.2.2.2.2.1.1.2.1
                have jnw2 := hJ.2.2.2.2.2.1.2.1
                have jnw3 := hJ.2.2.2.2.2.1.2.2.1
                have jst0 := hJ.2.2.2.2.2.2.1.1
                have jst1 := hJ.2.2.2.2.2.2.1.2.1
                have jst2 := hJ.2.2.2.2.2.2.1.2.2.1
                have jla0 : g 7 0 13 = h 8 0 4 := hJ.2.2.2.2.2.2.2.2
                have jsh_a : (0 ≤ a ∧ a < 4) → (g 3 a 0 = h 17 0 a ∧ -1 ≤ h 17 0 a ∧ h 17 0 a ≤ 2 ∧ g 3 a 1 = h 18 0 a ∧ 0 ≤ h 18 0 a ∧ h 18 0 a ≤ 60) := fun z => by
                  have := hJ.2.2.2.2.2.2.2.1 a z.1 z.2
                  exact ⟨this.1.1, this.1.2.1, this.1.2.2, this.2.1.1, this.2.1.2.1, this.2.1.2.2⟩
                have jsh_t : (0 ≤ t ∧ t < 4) → (g 3 t 0 = h 17 0 t ∧ -1 ≤ h 17 0 t ∧ h 17 0 t ≤ 2 ∧ g 3 t 1 = h 18 0 t ∧ 0 ≤ h 18 0 t ∧ h 18 0 t ≤ 60) := fun z => by
                  have := hJ.2.2.2.2.2.2.2.1 t z.1 z.2
                  exact ⟨this.1.1, this.1.2.1, this.1.2.2, this.2.1.1, this.2.1.2.1, this.2.1.2.2⟩
                refine o_iload_n (n := 1) rfl rfl rfl ?_
                refine o_invsi (n := 4) rfl rfl rfl rfl rfl rfl (c8_isSheet _) ?_
                refine o_ifb_eq (n := 7) (t := 14) rfl rfl rfl (fun k4 => ?_) (fun k4 => ?_)
                · refine o_bipush (n := 16) rfl rfl ?_
                  refine o_iret rfl rfl ?_
                  first
                    | (exfalso; omega; done)
                    | (refine ⟨rfl, ?_, ?_, ?_⟩
                       · subst hh; exact ⟨⟨hS, hR, h6, hP⟩, Isg_c (g := g) (h := g) rfl rfl hsg, Itx_c (g := g) (h := g) rfl rfl rfl rfl htx, Iru_c (g := g) (h := g) (r := r) (by omega) hR (fun _ _ _ => rfl) (fun _ _ _ => rfl) rfl rfl rfl rfl rfl rfl rfl rfl hru, Iwd_c (g := g) (h := g) (by omega) rfl rfl rfl rfl rfl rfl hwd, Inw_c (g := g) (h := g) rfl rfl rfl rfl (fun _ _ _ => rfl) hnw, Ist_c (g := g) (h := g) (r := r) hR rfl rfl (fun _ _ _ => rfl) (fun _ _ _ => rfl) rfl rfl rfl rfl (fun _ _ => rfl) (fun _ _ => rfl) (fun _ _ => rfl) rfl rfl rfl hst, Ish_c (g := g) (h := g) rfl rfl rfl rfl rfl hsh, Ila_c (g := g) (h := g) rfl rfl hla⟩
                       · subst hh; rfl
                       · subst hh; rfl)
                    | (refine ⟨congrArg (fun z => some (vI z)) ?_, ?_, ?_, ?_⟩
                       · omega
                       · subst hh; exact ⟨⟨hS, hR, h6, hP⟩, Isg_c (g := g) (h := g) rfl rfl hsg, Itx_c (g := g) (h := g) rfl rfl rfl rfl htx, Iru_c (g := g) (h := g) (r := r) (by omega) hR (fun _ _ _ => rfl) (fun _ _ _ => rfl) rfl rfl rfl rfl rfl rfl rfl rfl hru, Iwd_c (g := g) (h := g) (by omega) rfl rfl rfl rfl rfl rfl hwd, Inw_c (g := g) (h := g) rfl rfl rfl rfl (fun _ _ _ => rfl) hnw, Ist_c (g := g) (h := g) (r := r) hR rfl rfl (fun _ _ _ => rfl) (fun _ _ _ => rfl) rfl rfl rfl rfl (fun _ _ => rfl) (fun _ _ => rfl) (fun _ _ => rfl) rfl rfl rfl hst, Ish_c (g := g) (h := g) rfl rfl rfl rfl rfl hsh, Ila_c (g := g) (h := g) rfl rfl hla⟩
                       · subst hh; rfl
                       · subst hh; rfl)
                · refine o_iload_n (n := 8) rfl rfl rfl ?_
                  refine o_invsi (n := 11) rfl rfl rfl rfl rfl rfl (c8_isSheet _) ?_
                  refine o_ifb_ne (n := 14) (t := 17) rfl rfl rfl (fun k11 => ?_) (fun k11 => ?_)
                  · refine o_aload_n (n := 18) rfl rfl rfl ?_
                    refine of_8_0 (n := 21) hS rfl rfl ?_
                    refine o_iload_n (n := 22) rfl rfl rfl ?_
                    refine o_iald (n := 23) (L := 4) rfl rfl rfl rfl rfl (by omega) (by omega) ?_
                    refine o_if_lt (n := 26) (t := 35) rfl rfl rfl (fun k23 => ?_) (fun k23 => ?_)
                    · refine o_aload_n (n := 36) rfl rfl rfl ?_
                      refine o_iconst (n := 37) rfl rfl ?_
                      refine o_invi (n := 40) rfl rfl rfl rfl rfl rfl rfl rfl rfl rfl (c8_finds _ (by omega) (by omega)) ?_
                      refine o_iret rfl rfl ?_
                      first
                        | (exfalso; omega; done)
                        | (refine ⟨rfl, ?_, ?_, ?_⟩
                           · subst hh; exact ⟨⟨hS, hR, h6, hP⟩, Isg_c (g := g) (h := g) rfl rfl hsg, Itx_c (g := g) (h := g) rfl rfl rfl rfl htx, Iru_c (g := g) (h := g) (r := r) (by omega) hR (fun _ _ _ => rfl) (fun _ _ _ => rfl) rfl rfl rfl rfl rfl rfl rfl rfl hru, Iwd_c (g := g) (h := g) (by omega) rfl rfl rfl rfl rfl rfl hwd, Inw_c (g := g) (h := g) rfl rfl rfl rfl (fun _ _ _ => rfl) hnw, Ist_c (g := g) (h := g) (r := r) hR rfl rfl (fun _ _ _ => rfl) (fun _ _ _ => rfl) rfl rfl rfl rfl (fun _ _ => rfl) (fun _ _ => rfl) (fun _ _ => rfl) rfl rfl rfl hst, Ish_c (g := g) (h := g) rfl rfl rfl rfl rfl hsh, rfl⟩
                           · subst hh; rfl
                           · subst hh; rfl)
                        | (refine ⟨congrArg (fun z => some (vI z)) ?_, ?_, ?_, ?_⟩
                           · omega
                           · subst hh; exact ⟨⟨hS, hR, h6, hP⟩, Isg_c (g := g) (h := g) rfl rfl hsg, Itx_c (g := g) (h := g) rfl rfl rfl rfl htx, Iru_c (g := g) (h := g) (r := r) (by omega) hR (fun _ _ _ => rfl) (fun _ _ _ => rfl) rfl rfl rfl rfl rfl rfl rfl rfl hru, Iwd_c (g := g) (h := g) (by omega) rfl rfl rfl rfl rfl rfl hwd, Inw_c (g := g) (h := g) rfl rfl rfl rfl (fun _ _ _ => rfl) hnw, Ist_c (g := g) (h := g) (r := r) hR rfl rfl (fun _ _ _ => rfl) (fun _ _ _ => rfl) rfl rfl rfl rfl (fun _ _ => rfl) (fun _ _ => rfl) (fun _ _ => rfl) rfl rfl rfl hst, Ish_c (g := g) (h := g) rfl rfl rfl rfl rfl hsh, rfl⟩
                           · subst hh; rfl
                           · subst hh; rfl)
                    · refine o_aload_n (n := 27) rfl rfl rfl ?_
                      refine of_8_0 (n := 30) hS rfl rfl ?_
                      refine o_iload_n (n := 31) rfl rfl rfl ?_
                      refine o_iald (n := 32) (L := 4) rfl rfl rfl rfl rfl (by omega) (by omega) ?_
                      refine o_if_ge (n := 35) (t := 41) rfl rfl rfl (fun k32 => ?_) (fun k32 => ?_)
                      · refine o_aload_n (n := 42) rfl rfl rfl ?_
                        refine of_8_0 (n := 45) hS rfl rfl ?_
                        refine o_iload_n (n := 46) rfl rfl rfl ?_
                        refine o_iald (n := 47) (L := 4) rfl rfl rfl rfl rfl (by omega) (by omega) ?_
                        refine o_aload_n (n := 48) rfl rfl rfl ?_
                        refine of_8_0 (n := 51) hS rfl rfl ?_
                        refine o_iload_n (n := 52) rfl rfl rfl ?_
                        refine o_iald (n := 53) (L := 4) rfl rfl rfl rfl rfl (by omega) (by omega) ?_
                        refine o_icmp_eq (n := 56) (t := 62) rfl rfl rfl (fun k53 => ?_) (fun k53 => ?_)
                        · refine o_iload_n (n := 63) rfl rfl rfl ?_
                          refine o_if_lt (n := 66) (t := 111) rfl rfl rfl (fun k63 => ?_) (fun k63 => ?_)
                          · refine o_aload_n (n := 112) rfl rfl rfl ?_
                            refine o_iconst (n := 113) rfl rfl ?_
                            refine o_invi (n := 116) rfl rfl rfl rfl rfl rfl rfl rfl rfl rfl (c8_finds _ (by omega) (by omega)) ?_
                            refine o_iret rfl rfl ?_
                            first
                              | (exfalso; omega; done)
                              | (refine ⟨rfl, ?_, ?_, ?_⟩
                                 · subst hh; exact ⟨⟨hS, hR, h6, hP⟩, Isg_c (g := g) (h := g) rfl rfl hsg, Itx_c (g := g) (h := g) rfl rfl rfl rfl htx, Iru_c (g := g) (h := g) (r := r) (by omega) hR (fun _ _ _ => rfl) (fun _ _ _ => rfl) rfl rfl rfl rfl rfl rfl rfl rfl hru, Iwd_c (g := g) (h := g) (by omega) rfl rfl rfl rfl rfl rfl hwd, Inw_c (g := g) (h := g) rfl rfl rfl rfl (fun _ _ _ => rfl) hnw, Ist_c (g := g) (h := g) (r := r) hR rfl rfl (fun _ _ _ => rfl) (fun _ _ _ => rfl) rfl rfl rfl rfl (fun _ _ => rfl) (fun _ _ => rfl) (fun _ _ => rfl) rfl rfl rfl hst, Ish_c (g := g) (h := g) rfl rfl rfl rfl rfl hsh, rfl⟩
                                 · subst hh; rfl
                                 · subst hh; rfl)
                              | (refine ⟨congrArg (fun z => some (vI z)) ?_, ?_, ?_, ?_⟩
                                 · omega
                                 · subst hh; exact ⟨⟨hS, hR, h6, hP⟩, Isg_c (g := g) (h := g) rfl rfl hsg, Itx_c (g := g) (h := g) rfl rfl rfl rfl htx, Iru_c (g := g) (h := g) (r := r) (by omega) hR (fun _ _ _ => rfl) (fun _ _ _ => rfl) rfl rfl rfl rfl rfl rfl rfl rfl hru, Iwd_c (g := g) (h := g) (by omega) rfl rfl rfl rfl rfl rfl hwd, Inw_c (g := g) (h := g) rfl rfl rfl rfl (fun _ _ _ => rfl) hnw, Ist_c (g := g) (h := g) (r := r) hR rfl rfl (fun _ _ _ => rfl) (fun _ _ _ => rfl) rfl rfl rfl rfl (fun _ _ => rfl) (fun _ _ => rfl) (fun _ _ => rfl) rfl rfl rfl hst, Ish_c (g := g) (h := g) rfl rfl rfl rfl rfl hsh, rfl⟩
                                 · subst hh; rfl
                                 · subst hh; rfl)
                          · refine o_iload (n := 68) rfl rfl rfl ?_
                            refine o_if_lt (n := 71) (t := 111) rfl rfl rfl (fun k68 => ?_) (fun k68 => ?_)
                            · refine o_aload_n (n := 112) rfl rfl rfl ?_
                              refine o_iconst (n := 113) rfl rfl ?_
                              refine o_invi (n := 116) rfl rfl rfl rfl rfl rfl rfl rfl rfl rfl (c8_finds _ (by omega) (by omega)) ?_
                              refine o_iret rfl rfl ?_
                              first
                                | (exfalso; omega; done)
                                | (refine ⟨rfl, ?_, ?_, ?_⟩
                                   · subst hh; exact ⟨⟨hS, hR, h6, hP⟩, Isg_c (g := g) (h := g) rfl rfl hsg, Itx_c (g := g) (h := g) rfl rfl rfl rfl htx, Iru_c (g := g) (h := g) (r := r) (by omega) hR (fun _ _ _ => rfl) (fun _ _ _ => rfl) rfl rfl rfl rfl rfl rfl rfl rfl hru, Iwd_c (g := g) (h := g) (by omega) rfl rfl rfl rfl rfl rfl hwd, Inw_c (g := g) (h := g) rfl rfl rfl rfl (fun _ _ _ => rfl) hnw, Ist_c (g := g) (h := g) (r := r) hR rfl rfl (fun _ _ _ => rfl) (fun _ _ _ => rfl) rfl rfl rfl rfl (fun _ _ => rfl) (fun _ _ => rfl) (fun _ _ => rfl) rfl rfl rfl hst, Ish_c (g := g) (h := g) rfl rfl rfl rfl rfl hsh, rfl⟩
                                   · subst hh; rfl
                                   · subst hh; rfl)
                                | (refine ⟨congrArg (fun z => some (vI z)) ?_, ?_, ?_, ?_⟩
                                   · omega
                                   · subst hh; exact ⟨⟨hS, hR, h6, hP⟩, Isg_c (g := g) (h := g) rfl rfl hsg, Itx_c (g := g) (h := g) rfl rfl rfl rfl htx, Iru_c (g := g) (h := g) (r := r) (by omega) hR (fun _ _ _ => rfl) (fun _ _ _ => rfl) rfl rfl rfl rfl rfl rfl rfl rfl hru, Iwd_c (g := g) (h := g) (by omega) rfl rfl rfl rfl rfl rfl hwd, Inw_c (g := g) (h := g) rfl rfl rfl rfl (fun _ _ _ => rfl) hnw, Ist_c (g := g) (h := g) (r := r) hR rfl rfl (fun _ _ _ => rfl) (fun _ _ _ => rfl) rfl rfl rfl rfl (fun _ _ => rfl) (fun _ _ => rfl) (fun _ _ => rfl) rfl rfl rfl hst, Ish_c (g := g) (h := g) rfl rfl rfl rfl rfl hsh, rfl⟩
                                   · subst hh; rfl
                                   · subst hh; rfl)
                            · refine o_iload (n := 73) rfl rfl rfl ?_
                              refine o_if_lt (n := 76) (t := 111) rfl rfl rfl (fun k73 => ?_) (fun k73 => ?_)
                              · refine o_aload_n (n := 112) rfl rfl rfl ?_
                                refine o_iconst (n := 113) rfl rfl ?_
                                refine o_invi (n := 116) rfl rfl rfl rfl rfl rfl rfl rfl rfl rfl (c8_finds _ (by omega) (by omega)) ?_
                                refine o_iret rfl rfl ?_
                                first
                                  | (exfalso; omega; done)
                                  | (refine ⟨rfl, ?_, ?_, ?_⟩
                                     · subst hh; exact ⟨⟨hS, hR, h6, hP⟩, Isg_c (g := g) (h := g) rfl rfl hsg, Itx_c (g := g) (h := g) rfl rfl rfl rfl htx, Iru_c (g := g) (h := g) (r := r) (by omega) hR (fun _ _ _ => rfl) (fun _ _ _ => rfl) rfl rfl rfl rfl rfl rfl rfl rfl hru, Iwd_c (g := g) (h := g) (by omega) rfl rfl rfl rfl rfl rfl hwd, Inw_c (g := g) (h := g) rfl rfl rfl rfl (fun _ _ _ => rfl) hnw, Ist_c (g := g) (h := g) (r := r) hR rfl rfl (fun _ _ _ => rfl) (fun _ _ _ => rfl) rfl rfl rfl rfl (fun _ _ => rfl) (fun _ _ => rfl) (fun _ _ => rfl) rfl rfl rfl hst, Ish_c (g := g) (h := g) rfl rfl rfl rfl rfl hsh, rfl⟩
                                     · subst hh; rfl
                                     · subst hh; rfl)
                                  | (refine ⟨congrArg (fun z => some (vI z)) ?_, ?_, ?_, ?_⟩
                                     · omega
                                     · subst hh; exact ⟨⟨hS, hR, h6, hP⟩, Isg_c (g := g) (h := g) rfl rfl hsg, Itx_c (g := g) (h := g) rfl rfl rfl rfl htx, Iru_c (g := g) (h := g) (r := r) (by omega) hR (fun _ _ _ => rfl) (fun _ _ _ => rfl) rfl rfl rfl rfl rfl rfl rfl rfl hru, Iwd_c (g := g) (h := g) (by omega) rfl rfl rfl rfl rfl rfl hwd, Inw_c (g := g) (h := g) rfl rfl rfl rfl (fun _ _ _ => rfl) hnw, Ist_c (g := g) (h := g) (r := r) hR rfl rfl (fun _ _ _ => rfl) (fun _ _ _ => rfl) rfl rfl rfl rfl (fun _ _ => rfl) (fun _ _ => rfl) (fun _ _ => rfl) rfl rfl rfl hst, Ish_c (g := g) (h := g) rfl rfl rfl rfl rfl hsh, rfl⟩
                                     · subst hh; rfl
                                     · subst hh; rfl)
                              · refine o_iload_n (n := 77) rfl rfl rfl ?_
                                refine o_i2l (n := 78) rfl rfl ?_
                                refine o_iload (n := 80) rfl rfl rfl ?_
                                refine o_i2l (n := 81) rfl rfl ?_
                                refine o_laddN (n := 82) rfl rfl (by omega) ?_
                                refine o_aload_n (n := 83) rfl rfl rfl ?_
                                refine of_8_1 (n := 86) hS rfl rfl ?_
                                refine o_iload_n (n := 87) rfl rfl rfl ?_
                                refine o_iald (n := 88) (L := 4) rfl rfl rfl rfl rfl (by omega) (by omega) ?_
                                refine o_i2l (n := 89) rfl rfl ?_
                                refine o_lcmp_gt (n := 93) (t := 111) rfl rfl rfl rfl (fun k89 => ?_) (fun k89 => ?_)
                                · refine o_aload_n (n := 112) rfl rfl rfl ?_
                                  refine o_iconst (n := 113) rfl rfl ?_
                                  refine o_invi (n := 116) rfl rfl rfl rfl rfl rfl rfl rfl rfl rfl (c8_finds _ (by omega) (by omega)) ?_
                                  refine o_iret rfl rfl ?_
                                  first
                                    | (exfalso; omega; done)
                                    | (refine ⟨rfl, ?_, ?_, ?_⟩
                                       · subst hh; exact ⟨⟨hS, hR, h6, hP⟩, Isg_c (g := g) (h := g) rfl rfl hsg, Itx_c (g := g) (h := g) rfl rfl rfl rfl htx, Iru_c (g := g) (h := g) (r := r) (by omega) hR (fun _ _ _ => rfl) (fun _ _ _ => rfl) rfl rfl rfl rfl rfl rfl rfl rfl hru, Iwd_c (g := g) (h := g) (by omega) rfl rfl rfl rfl rfl rfl hwd, Inw_c (g := g) (h := g) rfl rfl rfl rfl (fun _ _ _ => rfl) hnw, Ist_c (g := g) (h := g) (r := r) hR rfl rfl (fun _ _ _ => rfl) (fun _ _ _ => rfl) rfl rfl rfl rfl (fun _ _ => rfl) (fun _ _ => rfl) (fun _ _ => rfl) rfl rfl rfl hst, Ish_c (g := g) (h := g) rfl rfl rfl rfl rfl hsh, rfl⟩
                                       · subst hh; rfl
                                       · subst hh; rfl)
                                    | (refine ⟨congrArg (fun z => some (vI z)) ?_, ?_, ?_, ?_⟩
                                       · omega
                                       · subst hh; exact ⟨⟨hS, hR, h6, hP⟩, Isg_c (g := g) (h := g) rfl rfl hsg, Itx_c (g := g) (h := g) rfl rfl rfl rfl htx, Iru_c (g := g) (h := g) (r := r) (by omega) hR (fun _ _ _ => rfl) (fun _ _ _ => rfl) rfl rfl rfl rfl rfl rfl rfl rfl hru, Iwd_c (g := g) (h := g) (by omega) rfl rfl rfl rfl rfl rfl hwd, Inw_c (g := g) (h := g) rfl rfl rfl rfl (fun _ _ _ => rfl) hnw, Ist_c (g := g) (h := g) (r := r) hR rfl rfl (fun _ _ _ => rfl) (fun _ _ _ => rfl) rfl rfl rfl rfl (fun _ _ => rfl) (fun _ _ => rfl) (fun _ _ => rfl) rfl rfl rfl hst, Ish_c (g := g) (h := g) rfl rfl rfl rfl rfl hsh, rfl⟩
                                       · subst hh; rfl
                                       · subst hh; rfl)
                                · refine o_iload (n := 95) rfl rfl rfl ?_
                                  refine o_i2l (n := 96) rfl rfl ?_
                                  refine o_iload (n := 98) rfl rfl rfl ?_
                                  refine o_i2l (n := 99) rfl rfl ?_
                                  refine o_laddN (n := 100) rfl rfl (by omega) ?_
                                  refine o_aload_n (n := 101) rfl rfl rfl ?_
                                  refine of_8_1 (n := 104) hS rfl rfl ?_
                                  refine o_iload_n (n := 105) rfl rfl rfl ?_
                                  refine o_iald (n := 106) (L := 4) rfl rfl rfl rfl rfl (by omega) (by omega) ?_
                                  refine o_i2l (n := 107) rfl rfl ?_
                                  refine o_lcmp_le (n := 111) (t := 117) rfl rfl rfl rfl (fun k107 => ?_) (fun k107 => ?_)
                                  · refine o_iconst (n := 118) rfl rfl ?_
                                    refine o_istore_6 (n := 120) rfl rfl rfl ?_
                                    exfalso; omega
                                  · refine o_aload_n (n := 112) rfl rfl rfl ?_
                                    refine o_iconst (n := 113) rfl rfl ?_
                                    refine o_invi (n := 116) rfl rfl rfl rfl rfl rfl rfl rfl rfl rfl (c8_finds _ (by omega) (by omega)) ?_
                                    refine o_iret rfl rfl ?_
                                    first
                                      | (exfalso; omega; done)
                                      | (refine ⟨rfl, ?_, ?_, ?_⟩
                                         · subst hh; exact ⟨⟨hS, hR, h6, hP⟩, Isg_c (g := g) (h := g) rfl rfl hsg, Itx_c (g := g) (h := g) rfl rfl rfl rfl htx, Iru_c (g := g) (h := g) (r := r) (by omega) hR (fun _ _ _ => rfl) (fun _ _ _ => rfl) rfl rfl rfl rfl rfl rfl rfl rfl hru, Iwd_c (g := g) (h := g) (by omega) rfl rfl rfl rfl rfl rfl hwd, Inw_c (g := g) (h := g) rfl rfl rfl rfl (fun _ _ _ => rfl) hnw, Ist_c (g := g) (h := g) (r := r) hR rfl rfl (fun _ _ _ => rfl) (fun _ _ _ => rfl) rfl rfl rfl rfl (fun _ _ => rfl) (fun _ _ => rfl) (fun _ _ => rfl) rfl rfl rfl hst, Ish_c (g := g) (h := g) rfl rfl rfl rfl rfl hsh, rfl⟩
                                         · subst hh; rfl
                                         · subst hh; rfl)
                                      | (refine ⟨congrArg (fun z => some (vI z)) ?_, ?_, ?_, ?_⟩
                                         · omega
                                         · subst hh; exact ⟨⟨hS, hR, h6, hP⟩, Isg_c (g := g) (h := g) rfl rfl hsg, Itx_c (g := g) (h := g) rfl rfl rfl rfl htx, Iru_c (g := g) (h := g) (r := r) (by omega) hR (fun _ _ _ => rfl) (fun _ _ _ => rfl) rfl rfl rfl rfl rfl rfl rfl rfl hru, Iwd_c (g := g) (h := g) (by omega) rfl rfl rfl rfl rfl rfl hwd, Inw_c (g := g) (h := g) rfl rfl rfl rfl (fun _ _ _ => rfl) hnw, Ist_c (g := g) (h := g) (r := r) hR rfl rfl (fun _ _ _ => rfl) (fun _ _ _ => rfl) rfl rfl rfl rfl (fun _ _ => rfl) (fun _ _ => rfl) (fun _ _ => rfl) rfl rfl rfl hst, Ish_c (g := g) (h := g) rfl rfl rfl rfl rfl hsh, rfl⟩
                                         · subst hh; rfl
                                         · subst hh; rfl)
                        · refine o_aload_n (n := 57) rfl rfl rfl ?_
                          refine o_iconst (n := 58) rfl rfl ?_
                          refine o_invi (n := 61) rfl rfl rfl rfl rfl rfl rfl rfl rfl rfl (c8_finds _ (by omega) (by omega)) ?_
                          refine o_iret rfl rfl ?_
                          first
                            | (exfalso; omega; done)
                            | (refine ⟨rfl, ?_, ?_, ?_⟩
                               · subst hh; exact ⟨⟨hS, hR, h6, hP⟩, Isg_c (g := g) (h := g) rfl rfl hsg, Itx_c (g := g) (h := g) rfl rfl rfl rfl htx, Iru_c (g := g) (h := g) (r := r) (by omega) hR (fun _ _ _ => rfl) (fun _ _ _ => rfl) rfl rfl rfl rfl rfl rfl rfl rfl hru, Iwd_c (g := g) (h := g) (by omega) rfl rfl rfl rfl rfl rfl hwd, Inw_c (g := g) (h := g) rfl rfl rfl rfl (fun _ _ _ => rfl) hnw, Ist_c (g := g) (h := g) (r := r) hR rfl rfl (fun _ _ _ => rfl) (fun _ _ _ => rfl) rfl rfl rfl rfl (fun _ _ => rfl) (fun _ _ => rfl) (fun _ _ => rfl) rfl rfl rfl hst, Ish_c (g := g) (h := g) rfl rfl rfl rfl rfl hsh, rfl⟩
                               · subst hh; rfl
                               · subst hh; rfl)
                            | (refine ⟨congrArg (fun z => some (vI z)) ?_, ?_, ?_, ?_⟩
                               · omega
                               · subst hh; exact ⟨⟨hS, hR, h6, hP⟩, Isg_c (g := g) (h := g) rfl rfl hsg, Itx_c (g := g) (h := g) rfl rfl rfl rfl htx, Iru_c (g := g) (h := g) (r := r) (by omega) hR (fun _ _ _ => rfl) (fun _ _ _ => rfl) rfl rfl rfl rfl rfl rfl rfl rfl hru, Iwd_c (g := g) (h := g) (by omega) rfl rfl rfl rfl rfl rfl hwd, Inw_c (g := g) (h := g) rfl rfl rfl rfl (fun _ _ _ => rfl) hnw, Ist_c (g := g) (h := g) (r := r) hR rfl rfl (fun _ _ _ => rfl) (fun _ _ _ => rfl) rfl rfl rfl rfl (fun _ _ => rfl) (fun _ _ => rfl) (fun _ _ => rfl) rfl rfl rfl hst, Ish_c (g := g) (h := g) rfl rfl rfl rfl rfl hsh, rfl⟩
                               · subst hh; rfl
                               · subst hh; rfl)
                      · refine o_aload_n (n := 36) rfl rfl rfl ?_
                        refine o_iconst (n := 37) rfl rfl ?_
                        refine o_invi (n := 40) rfl rfl rfl rfl rfl rfl rfl rfl rfl rfl (c8_finds _ (by omega) (by omega)) ?_
                        refine o_iret rfl rfl ?_
                        first
                          | (exfalso; omega; done)
                          | (refine ⟨rfl, ?_, ?_, ?_⟩
                             · subst hh; exact ⟨⟨hS, hR, h6, hP⟩, Isg_c (g := g) (h := g) rfl rfl hsg, Itx_c (g := g) (h := g) rfl rfl rfl rfl htx, Iru_c (g := g) (h := g) (r := r) (by omega) hR (fun _ _ _ => rfl) (fun _ _ _ => rfl) rfl rfl rfl rfl rfl rfl rfl rfl hru, Iwd_c (g := g) (h := g) (by omega) rfl rfl rfl rfl rfl rfl hwd, Inw_c (g := g) (h := g) rfl rfl rfl rfl (fun _ _ _ => rfl) hnw, Ist_c (g := g) (h := g) (r := r) hR rfl rfl (fun _ _ _ => rfl) (fun _ _ _ => rfl) rfl rfl rfl rfl (fun _ _ => rfl) (fun _ _ => rfl) (fun _ _ => rfl) rfl rfl rfl hst, Ish_c (g := g) (h := g) rfl rfl rfl rfl rfl hsh, rfl⟩
                             · subst hh; rfl
                             · subst hh; rfl)
                          | (refine ⟨congrArg (fun z => some (vI z)) ?_, ?_, ?_, ?_⟩
                             · omega
                             · subst hh; exact ⟨⟨hS, hR, h6, hP⟩, Isg_c (g := g) (h := g) rfl rfl hsg, Itx_c (g := g) (h := g) rfl rfl rfl rfl htx, Iru_c (g := g) (h := g) (r := r) (by omega) hR (fun _ _ _ => rfl) (fun _ _ _ => rfl) rfl rfl rfl rfl rfl rfl rfl rfl hru, Iwd_c (g := g) (h := g) (by omega) rfl rfl rfl rfl rfl rfl hwd, Inw_c (g := g) (h := g) rfl rfl rfl rfl (fun _ _ _ => rfl) hnw, Ist_c (g := g) (h := g) (r := r) hR rfl rfl (fun _ _ _ => rfl) (fun _ _ _ => rfl) rfl rfl rfl rfl (fun _ _ => rfl) (fun _ _ => rfl) (fun _ _ => rfl) rfl rfl rfl hst, Ish_c (g := g) (h := g) rfl rfl rfl rfl rfl hsh, rfl⟩
                             · subst hh; rfl
                             · subst hh; rfl)
                  · refine o_bipush (n := 16) rfl rfl ?_
                    refine o_iret rfl rfl ?_
                    first
                      | (exfalso; omega; done)
                      | (refine ⟨rfl, ?_, ?_, ?_⟩
                         · subst hh; exact ⟨⟨hS, hR, h6, hP⟩, Isg_c (g := g) (h := g) rfl rfl hsg, Itx_c (g := g) (h := g) rfl rfl rfl rfl htx, Iru_c (g := g) (h := g) (r := r) (by omega) hR (fun _ _ _ => rfl) (fun _ _ _ => rfl) rfl rfl rfl rfl rfl rfl rfl rfl hru, Iwd_c (g := g) (h := g) (by omega) rfl rfl rfl rfl rfl rfl hwd, Inw_c (g := g) (h := g) rfl rfl rfl rfl (fun _ _ _ => rfl) hnw, Ist_c (g := g) (h := g) (r := r) hR rfl rfl (fun _ _ _ => rfl) (fun _ _ _ => rfl) rfl rfl rfl rfl (fun _ _ => rfl) (fun _ _ => rfl) (fun _ _ => rfl) rfl rfl rfl hst, Ish_c (g := g) (h := g) rfl rfl rfl rfl rfl hsh, Ila_c (g := g) (h := g) rfl rfl hla⟩
                         · subst hh; rfl
                         · subst hh; rfl)
                      | (refine ⟨congrArg (fun z => some (vI z)) ?_, ?_, ?_, ?_⟩
                         · omega
                         · subst hh; exact ⟨⟨hS, hR, h6, hP⟩, Isg_c (g := g) (h := g) rfl rfl hsg, Itx_c (g := g) (h := g) rfl rfl rfl rfl htx, Iru_c (g := g) (h := g) (r := r) (by omega) hR (fun _ _ _ => rfl) (fun _ _ _ => rfl) rfl rfl rfl rfl rfl rfl rfl rfl hru, Iwd_c (g := g) (h := g) (by omega) rfl rfl rfl rfl rfl rfl hwd, Inw_c (g := g) (h := g) rfl rfl rfl rfl (fun _ _ _ => rfl) hnw, Ist_c (g := g) (h := g) (r := r) hR rfl rfl (fun _ _ _ => rfl) (fun _ _ _ => rfl) rfl rfl rfl rfl (fun _ _ => rfl) (fun _ _ => rfl) (fun _ _ => rfl) rfl rfl rfl hst, Ish_c (g := g) (h := g) rfl rfl rfl rfl rfl hsh, Ila_c (g := g) (h := g) rfl rfl hla⟩
                         · subst hh; rfl
                         · subst hh; rfl)
          · refine o_aload_n (n := 71) rfl rfl rfl ?_
            refine o_iconst (n := 72) rfl rfl ?_
            refine o_invi (n := 75) rfl rfl rfl rfl rfl rfl rfl rfl rfl rfl (c7_found _ (by omega) (by omega)) ?_
            refine o_iret rfl rfl ?_
            refine q8_of (g := g) (r := r) (fun k hk => by first | rfl | exact gset_kf (isM_ne hk (by decide)) | exact (gset_kf (isM_ne hk (by decide))).trans (gset_kf (isM_ne hk (by decide))) | exact (gset_kf (isM_ne hk (by decide))).trans ((gset_kf (isM_ne hk (by decide))).trans (gset_kf (isM_ne hk (by decide)))) | exact (gset_kf (isM_ne hk (by decide))).trans ((gset_kf (isM_ne hk (by decide))).trans ((gset_kf (isM_ne hk (by decide))).trans (gset_kf (isM_ne hk (by decide)))))) hI (fun h hh hJ => ?_)
            show Ou 120 0 [vR 8 0, vI a, vI i, vI t, vI j, vI n, vN] [] h _ _
            obtain ⟨jsg1, jsg2, jsg3⟩ := hJ.2.1
            obtain ⟨jtx1, jtx2, jtx3, jtx4⟩ := hJ.2.2.1
            have jru0 : g 7 0 10 = h 8 0 8 := hJ.2.2.2.1.1.1
            have jru1 := hJ.2.2.2.1.2.1.1
            have jwd0 : g 1 0 1 = h 8 0 14 := hJ.2.2.2.2.1.1.1
            have jwd1 := hJ.2.2.2.2.1.2.1.1
            have jwd2 := hJ.2.2.2.2.1.2.2
            have jnw0 : g 0 0 0 = h 27 0 8 := hJ.2.2.2.2.2.1.1.1
            have jnw1 : g 0 0 1 = h 28 0 8 := hJ.2.2.2.2.2.1.1.2.1
            have jnw2 := hJ.2.2.2.2.2.1.2.1
            have jnw3 := hJ.2.2.2.2.2.1.2.2.1
            have jst0 := hJ.2.2.2.2.2.2.1.1
            have jst1 := hJ.2.2.2.2.2.2.1.2.1
            have jst2 := hJ.2.2.2.2.2.2.1.2.2.1
            have jla0 : g 7 0 13 = h 8 0 4 := hJ.2.2.2.2.2.2.2.2
            have jsh_a : (0 ≤ a ∧ a < 4) → (g 3 a 0 = h 17 0 a ∧ -1 ≤ h 17 0 a ∧ h 17 0 a ≤ 2 ∧ g 3 a 1 = h 18 0 a ∧ 0 ≤ h 18 0 a ∧ h 18 0 a ≤ 60) := fun z => by
              have := hJ.2.2.2.2.2.2.2.1 a z.1 z.2
              exact ⟨this.1.1, this.1.2.1, this.1.2.2, this.2.1.1, this.2.1.2.1, this.2.1.2.2⟩
            have jsh_t : (0 ≤ t ∧ t < 4) → (g 3 t 0 = h 17 0 t ∧ -1 ≤ h 17 0 t ∧ h 17 0 t ≤ 2 ∧ g 3 t 1 = h 18 0 t ∧ 0 ≤ h 18 0 t ∧ h 18 0 t ≤ 60) := fun z => by
              have := hJ.2.2.2.2.2.2.2.1 t z.1 z.2
              exact ⟨this.1.1, this.1.2.1, this.1.2.2, this.2.1.1, this.2.1.2.1, this.2.1.2.2⟩
            refine o_iload_n (n := 1) rfl rfl rfl ?_
            refine o_invsi (n := 4) rfl rfl rfl rfl rfl rfl (c8_isSheet _) ?_
            refine o_ifb_eq (n := 7) (t := 14) rfl rfl rfl (fun k4 => ?_) (fun k4 => ?_)
            · refine o_bipush (n := 16) rfl rfl ?_
              refine o_iret rfl rfl ?_
              first
                | (exfalso; omega; done)
                | (refine ⟨rfl, ?_, ?_, ?_⟩
                   · subst hh; exact ⟨⟨hS, hR, h6, hP⟩, Isg_c (g := g) (h := g) rfl rfl hsg, Itx_c (g := g) (h := g) rfl rfl rfl rfl htx, Iru_c (g := g) (h := g) (r := r) (by omega) hR (fun _ _ _ => rfl) (fun _ _ _ => rfl) rfl rfl rfl rfl rfl rfl rfl rfl hru, Iwd_c (g := g) (h := g) (by omega) rfl rfl rfl rfl rfl rfl hwd, Inw_c (g := g) (h := g) rfl rfl rfl rfl (fun _ _ _ => rfl) hnw, Ist_c (g := g) (h := g) (r := r) hR rfl rfl (fun _ _ _ => rfl) (fun _ _ _ => rfl) rfl rfl rfl rfl (fun _ _ => rfl) (fun _ _ => rfl) (fun _ _ => rfl) rfl rfl rfl hst, Ish_c (g := g) (h := g) rfl rfl rfl rfl rfl hsh, Ila_c (g := g) (h := g) rfl rfl hla⟩
                   · subst hh; rfl
                   · subst hh; rfl)
                | (refine ⟨congrArg (fun z => some (vI z)) ?_, ?_, ?_, ?_⟩
                   · omega
                   · subst hh; exact ⟨⟨hS, hR, h6, hP⟩, Isg_c (g := g) (h := g) rfl rfl hsg, Itx_c (g := g) (h := g) rfl rfl rfl rfl htx, Iru_c (g := g) (h := g) (r := r) (by omega) hR (fun _ _ _ => rfl) (fun _ _ _ => rfl) rfl rfl rfl rfl rfl rfl rfl rfl hru, Iwd_c (g := g) (h := g) (by omega) rfl rfl rfl rfl rfl rfl hwd, Inw_c (g := g) (h := g) rfl rfl rfl rfl (fun _ _ _ => rfl) hnw, Ist_c (g := g) (h := g) (r := r) hR rfl rfl (fun _ _ _ => rfl) (fun _ _ _ => rfl) rfl rfl rfl rfl (fun _ _ => rfl) (fun _ _ => rfl) (fun _ _ => rfl) rfl rfl rfl hst, Ish_c (g := g) (h := g) rfl rfl rfl rfl rfl hsh, Ila_c (g := g) (h := g) rfl rfl hla⟩
                   · subst hh; rfl
                   · subst hh; rfl)
            · refine o_iload_n (n := 8) rfl rfl rfl ?_
              refine o_invsi (n := 11) rfl rfl rfl rfl rfl rfl (c8_isSheet _) ?_
              refine o_ifb_ne (n := 14) (t := 17) rfl rfl rfl (fun k11 => ?_) (fun k11 => ?_)
              · refine o_aload_n (n := 18) rfl rfl rfl ?_
                refine of_8_0 (n := 21) hS rfl rfl ?_
                refine o_iload_n (n := 22) rfl rfl rfl ?_
                refine o_iald (n := 23) (L := 4) rfl rfl rfl rfl rfl (by omega) (by omega) ?_
                refine o_if_lt (n := 26) (t := 35) rfl rfl rfl (fun k23 => ?_) (fun k23 => ?_)
                · refine o_aload_n (n := 36) rfl rfl rfl ?_
                  refine o_iconst (n := 37) rfl rfl ?_
                  refine o_invi (n := 40) rfl rfl rfl rfl rfl rfl rfl rfl rfl rfl (c8_finds _ (by omega) (by omega)) ?_
                  refine o_iret rfl rfl ?_
                  first
                    | (exfalso; omega; done)
                    | (refine ⟨rfl, ?_, ?_, ?_⟩
                       · subst hh; exact ⟨⟨hS, hR, h6, hP⟩, Isg_c (g := g) (h := g) rfl rfl hsg, Itx_c (g := g) (h := g) rfl rfl rfl rfl htx, Iru_c (g := g) (h := g) (r := r) (by omega) hR (fun _ _ _ => rfl) (fun _ _ _ => rfl) rfl rfl rfl rfl rfl rfl rfl rfl hru, Iwd_c (g := g) (h := g) (by omega) rfl rfl rfl rfl rfl rfl hwd, Inw_c (g := g) (h := g) rfl rfl rfl rfl (fun _ _ _ => rfl) hnw, Ist_c (g := g) (h := g) (r := r) hR rfl rfl (fun _ _ _ => rfl) (fun _ _ _ => rfl) rfl rfl rfl rfl (fun _ _ => rfl) (fun _ _ => rfl) (fun _ _ => rfl) rfl rfl rfl hst, Ish_c (g := g) (h := g) rfl rfl rfl rfl rfl hsh, rfl⟩
                       · subst hh; rfl
                       · subst hh; rfl)
                    | (refine ⟨congrArg (fun z => some (vI z)) ?_, ?_, ?_, ?_⟩
                       · omega
                       · subst hh; exact ⟨⟨hS, hR, h6, hP⟩, Isg_c (g := g) (h := g) rfl rfl hsg, Itx_c (g := g) (h := g) rfl rfl rfl rfl htx, Iru_c (g := g) (h := g) (r := r) (by omega) hR (fun _ _ _ => rfl) (fun _ _ _ => rfl) rfl rfl rfl rfl rfl rfl rfl rfl hru, Iwd_c (g := g) (h := g) (by omega) rfl rfl rfl rfl rfl rfl hwd, Inw_c (g := g) (h := g) rfl rfl rfl rfl (fun _ _ _ => rfl) hnw, Ist_c (g := g) (h := g) (r := r) hR rfl rfl (fun _ _ _ => rfl) (fun _ _ _ => rfl) rfl rfl rfl rfl (fun _ _ => rfl) (fun _ _ => rfl) (fun _ _ => rfl) rfl rfl rfl hst, Ish_c (g := g) (h := g) rfl rfl rfl rfl rfl hsh, rfl⟩
                       · subst hh; rfl
                       · subst hh; rfl)
                · refine o_aload_n (n := 27) rfl rfl rfl ?_
                  refine of_8_0 (n := 30) hS rfl rfl ?_
                  refine o_iload_n (n := 31) rfl rfl rfl ?_
                  refine o_iald (n := 32) (L := 4) rfl rfl rfl rfl rfl (by omega) (by omega) ?_
                  refine o_if_ge (n := 35) (t := 41) rfl rfl rfl (fun k32 => ?_) (fun k32 => ?_)
                  · refine o_aload_n (n := 42) rfl rfl rfl ?_
                    refine of_8_0 (n := 45) hS rfl rfl ?_
                    refine o_iload_n (n := 46) rfl rfl rfl ?_
                    refine o_iald (n := 47) (L := 4) rfl rfl rfl rfl rfl (by omega) (by omega) ?_
                    refine o_aload_n (n := 48) rfl rfl rfl ?_
                    refine of_8_0 (n := 51) hS rfl rfl ?_
                    refine o_iload_n (n := 52) rfl rfl rfl ?_
                    refine o_iald (n := 53) (L := 4) rfl rfl rfl rfl rfl (by omega) (by omega) ?_
                    refine o_icmp_eq (n := 56) (t := 62) rfl rfl rfl (fun k53 => ?_) (fun k53 => ?_)
                    · refine o_iload_n (n := 63) rfl rfl rfl ?_
                      refine o_if_lt (n := 66) (t := 111) rfl rfl rfl (fun k63 => ?_) (fun k63 => ?_)
                      · refine o_aload_n (n := 112) rfl rfl rfl ?_
                        refine o_iconst (n := 113) rfl rfl ?_
                        refine o_invi (n := 116) rfl rfl rfl rfl rfl rfl rfl rfl rfl rfl (c8_finds _ (by omega) (by omega)) ?_
                        refine o_iret rfl rfl ?_
                        first
                          | (exfalso; omega; done)
                          | (refine ⟨rfl, ?_, ?_, ?_⟩
                             · subst hh; exact ⟨⟨hS, hR, h6, hP⟩, Isg_c (g := g) (h := g) rfl rfl hsg, Itx_c (g := g) (h := g) rfl rfl rfl rfl htx, Iru_c (g := g) (h := g) (r := r) (by omega) hR (fun _ _ _ => rfl) (fun _ _ _ => rfl) rfl rfl rfl rfl rfl rfl rfl rfl hru, Iwd_c (g := g) (h := g) (by omega) rfl rfl rfl rfl rfl rfl hwd, Inw_c (g := g) (h := g) rfl rfl rfl rfl (fun _ _ _ => rfl) hnw, Ist_c (g := g) (h := g) (r := r) hR rfl rfl (fun _ _ _ => rfl) (fun _ _ _ => rfl) rfl rfl rfl rfl (fun _ _ => rfl) (fun _ _ => rfl) (fun _ _ => rfl) rfl rfl rfl hst, Ish_c (g := g) (h := g) rfl rfl rfl rfl rfl hsh, rfl⟩
                             · subst hh; rfl
                             · subst hh; rfl)
                          | (refine ⟨congrArg (fun z => some (vI z)) ?_, ?_, ?_, ?_⟩
                             · omega
                             · subst hh; exact ⟨⟨hS, hR, h6, hP⟩, Isg_c (g := g) (h := g) rfl rfl hsg, Itx_c (g := g) (h := g) rfl rfl rfl rfl htx, Iru_c (g := g) (h := g) (r := r) (by omega) hR (fun _ _ _ => rfl) (fun _ _ _ => rfl) rfl rfl rfl rfl rfl rfl rfl rfl hru, Iwd_c (g := g) (h := g) (by omega) rfl rfl rfl rfl rfl rfl hwd, Inw_c (g := g) (h := g) rfl rfl rfl rfl (fun _ _ _ => rfl) hnw, Ist_c (g := g) (h := g) (r := r) hR rfl rfl (fun _ _ _ => rfl) (fun _ _ _ => rfl) rfl rfl rfl rfl (fun _ _ => rfl) (fun _ _ => rfl) (fun _ _ => rfl) rfl rfl rfl hst, Ish_c (g := g) (h := g) rfl rfl rfl rfl rfl hsh, rfl⟩
                             · subst hh; rfl
                             · subst hh; rfl)
                      · refine o_iload (n := 68) rfl rfl rfl ?_
                        refine o_if_lt (n := 71) (t := 111) rfl rfl rfl (fun k68 => ?_) (fun k68 => ?_)
                        · refine o_aload_n (n := 112) rfl rfl rfl ?_
                          refine o_iconst (n := 113) rfl rfl ?_
                          refine o_invi (n := 116) rfl rfl rfl rfl rfl rfl rfl rfl rfl rfl (c8_finds _ (by omega) (by omega)) ?_
                          refine o_iret rfl rfl ?_
                          first
                            | (exfalso; omega; done)
                            | (refine ⟨rfl, ?_, ?_, ?_⟩
                               · subst hh; exact ⟨⟨hS, hR, h6, hP⟩, Isg_c (g := g) (h := g) rfl rfl hsg, Itx_c (g := g) (h := g) rfl rfl rfl rfl htx, Iru_c (g := g) (h := g) (r := r) (by omega) hR (fun _ _ _ => rfl) (fun _ _ _ => rfl) rfl rfl rfl rfl rfl rfl rfl rfl hru, Iwd_c (g := g) (h := g) (by omega) rfl rfl rfl rfl rfl rfl hwd, Inw_c (g := g) (h := g) rfl rfl rfl rfl (fun _ _ _ => rfl) hnw, Ist_c (g := g) (h := g) (r := r) hR rfl rfl (fun _ _ _ => rfl) (fun _ _ _ => rfl) rfl rfl rfl rfl (fun _ _ => rfl) (fun _ _ => rfl) (fun _ _ => rfl) rfl rfl rfl hst, Ish_c (g := g) (h := g) rfl rfl rfl rfl rfl hsh, rfl⟩
                               · subst hh; rfl
                               · subst hh; rfl)
                            | (refine ⟨congrArg (fun z => some (vI z)) ?_, ?_, ?_, ?_⟩
                               · omega
                               · subst hh; exact ⟨⟨hS, hR, h6, hP⟩, Isg_c (g := g) (h := g) rfl rfl hsg, Itx_c (g := g) (h := g) rfl rfl rfl rfl htx, Iru_c (g := g) (h := g) (r := r) (by omega) hR (fun _ _ _ => rfl) (fun _ _ _ => rfl) rfl rfl rfl rfl rfl rfl rfl rfl hru, Iwd_c (g := g) (h := g) (by omega) rfl rfl rfl rfl rfl rfl hwd, Inw_c (g := g) (h := g) rfl rfl rfl rfl (fun _ _ _ => rfl) hnw, Ist_c (g := g) (h := g) (r := r) hR rfl rfl (fun _ _ _ => rfl) (fun _ _ _ => rfl) rfl rfl rfl rfl (fun _ _ => rfl) (fun _ _ => rfl) (fun _ _ => rfl) rfl rfl rfl hst, Ish_c (g := g) (h := g) rfl rfl rfl rfl rfl hsh, rfl⟩
                               · subst hh; rfl
                               · subst hh; rfl)
                        · refine o_iload (n := 73) rfl rfl rfl ?_
                          refine o_if_lt (n := 76) (t := 111) rfl rfl rfl (fun k73 => ?_) (fun k73 => ?_)
                          · refine o_aload_n (n := 112) rfl rfl rfl ?_
                            refine o_iconst (n := 113) rfl rfl ?_
                            refine o_invi (n := 116) rfl rfl rfl rfl rfl rfl rfl rfl rfl rfl (c8_finds _ (by omega) (by omega)) ?_
                            refine o_iret rfl rfl ?_
                            first
                              | (exfalso; omega; done)
                              | (refine ⟨rfl, ?_, ?_, ?_⟩
                                 · subst hh; exact ⟨⟨hS, hR, h6, hP⟩, Isg_c (g := g) (h := g) rfl rfl hsg, Itx_c (g := g) (h := g) rfl rfl rfl rfl htx, Iru_c (g := g) (h := g) (r := r) (by omega) hR (fun _ _ _ => rfl) (fun _ _ _ => rfl) rfl rfl rfl rfl rfl rfl rfl rfl hru, Iwd_c (g := g) (h := g) (by omega) rfl rfl rfl rfl rfl rfl hwd, Inw_c (g := g) (h := g) rfl rfl rfl rfl (fun _ _ _ => rfl) hnw, Ist_c (g := g) (h := g) (r := r) hR rfl rfl (fun _ _ _ => rfl) (fun _ _ _ => rfl) rfl rfl rfl rfl (fun _ _ => rfl) (fun _ _ => rfl) (fun _ _ => rfl) rfl rfl rfl hst, Ish_c (g := g) (h := g) rfl rfl rfl rfl rfl hsh, rfl⟩
                                 · subst hh; rfl
                                 · subst hh; rfl)
                              | (refine ⟨congrArg (fun z => some (vI z)) ?_, ?_, ?_, ?_⟩
                                 · omega
                                 · subst hh; exact ⟨⟨hS, hR, h6, hP⟩, Isg_c (g := g) (h := g) rfl rfl hsg, Itx_c (g := g) (h := g) rfl rfl rfl rfl htx, Iru_c (g := g) (h := g) (r := r) (by omega) hR (fun _ _ _ => rfl) (fun _ _ _ => rfl) rfl rfl rfl rfl rfl rfl rfl rfl hru, Iwd_c (g := g) (h := g) (by omega) rfl rfl rfl rfl rfl rfl hwd, Inw_c (g := g) (h := g) rfl rfl rfl rfl (fun _ _ _ => rfl) hnw, Ist_c (g := g) (h := g) (r := r) hR rfl rfl (fun _ _ _ => rfl) (fun _ _ _ => rfl) rfl rfl rfl rfl (fun _ _ => rfl) (fun _ _ => rfl) (fun _ _ => rfl) rfl rfl rfl hst, Ish_c (g := g) (h := g) rfl rfl rfl rfl rfl hsh, rfl⟩
                                 · subst hh; rfl
                                 · subst hh; rfl)
                          · refine o_iload_n (n := 77) rfl rfl rfl ?_
                            refine o_i2l (n := 78) rfl rfl ?_
                            refine o_iload (n := 80) rfl rfl rfl ?_
                            refine o_i2l (n := 81) rfl rfl ?_
                            refine o_laddN (n := 82) rfl rfl (by omega) ?_
                            refine o_aload_n (n := 83) rfl rfl rfl ?_
                            refine of_8_1 (n := 86) hS rfl rfl ?_
                            refine o_iload_n (n := 87) rfl rfl rfl ?_
                            refine o_iald (n := 88) (L := 4) rfl rfl rfl rfl rfl (by omega) (by omega) ?_
                            refine o_i2l (n := 89) rfl rfl ?_
                            refine o_lcmp_gt (n := 93) (t := 111) rfl rfl rfl rfl (fun k89 => ?_) (fun k89 => ?_)
                            · refine o_aload_n (n := 112) rfl rfl rfl ?_
                              refine o_iconst (n := 113) rfl rfl ?_
                              refine o_invi (n := 116) rfl rfl rfl rfl rfl rfl rfl rfl rfl rfl (c8_finds _ (by omega) (by omega)) ?_
                              refine o_iret rfl rfl ?_
                              first
                                | (exfalso; omega; done)
                                | (refine ⟨rfl, ?_, ?_, ?_⟩
                                   · subst hh; exact ⟨⟨hS, hR, h6, hP⟩, Isg_c (g := g) (h := g) rfl rfl hsg, Itx_c (g := g) (h := g) rfl rfl rfl rfl htx, Iru_c (g := g) (h := g) (r := r) (by omega) hR (fun _ _ _ => rfl) (fun _ _ _ => rfl) rfl rfl rfl rfl rfl rfl rfl rfl hru, Iwd_c (g := g) (h := g) (by omega) rfl rfl rfl rfl rfl rfl hwd, Inw_c (g := g) (h := g) rfl rfl rfl rfl (fun _ _ _ => rfl) hnw, Ist_c (g := g) (h := g) (r := r) hR rfl rfl (fun _ _ _ => rfl) (fun _ _ _ => rfl) rfl rfl rfl rfl (fun _ _ => rfl) (fun _ _ => rfl) (fun _ _ => rfl) rfl rfl rfl hst, Ish_c (g := g) (h := g) rfl rfl rfl rfl rfl hsh, rfl⟩
                                   · subst hh; rfl
                                   · subst hh; rfl)
                                | (refine ⟨congrArg (fun z => some (vI z)) ?_, ?_, ?_, ?_⟩
                                   · omega
                                   · subst hh; exact ⟨⟨hS, hR, h6, hP⟩, Isg_c (g := g) (h := g) rfl rfl hsg, Itx_c (g := g) (h := g) rfl rfl rfl rfl htx, Iru_c (g := g) (h := g) (r := r) (by omega) hR (fun _ _ _ => rfl) (fun _ _ _ => rfl) rfl rfl rfl rfl rfl rfl rfl rfl hru, Iwd_c (g := g) (h := g) (by omega) rfl rfl rfl rfl rfl rfl hwd, Inw_c (g := g) (h := g) rfl rfl rfl rfl (fun _ _ _ => rfl) hnw, Ist_c (g := g) (h := g) (r := r) hR rfl rfl (fun _ _ _ => rfl) (fun _ _ _ => rfl) rfl rfl rfl rfl (fun _ _ => rfl) (fun _ _ => rfl) (fun _ _ => rfl) rfl rfl rfl hst, Ish_c (g := g) (h := g) rfl rfl rfl rfl rfl hsh, rfl⟩
                                   · subst hh; rfl
                                   · subst hh; rfl)
                            · refine o_iload (n := 95) rfl rfl rfl ?_
                              refine o_i2l (n := 96) rfl rfl ?_
                              refine o_iload (n := 98) rfl rfl rfl ?_
                              refine o_i2l (n := 99) rfl rfl ?_
                              refine o_laddN (n := 100) rfl rfl (by omega) ?_
                              refine o_aload_n (n := 101) rfl rfl rfl ?_
                              refine of_8_1 (n := 104) hS rfl rfl ?_
                              refine o_iload_n (n := 105) rfl rfl rfl ?_
                              refine o_iald (n := 106) (L := 4) rfl rfl rfl rfl rfl (by omega) (by omega) ?_
                              refine o_i2l (n := 107) rfl rfl ?_
                              refine o_lcmp_le (n := 111) (t := 117) rfl rfl rfl rfl (fun k107 => ?_) (fun k107 => ?_)
                              · refine o_iconst (n := 118) rfl rfl ?_
                                refine o_istore_6 (n := 120) rfl rfl rfl ?_
                                exfalso; omega
                              · refine o_aload_n (n := 112) rfl rfl rfl ?_
                                refine o_iconst (n := 113) rfl rfl ?_
                                refine o_invi (n := 116) rfl rfl rfl rfl rfl rfl rfl rfl rfl rfl (c8_finds _ (by omega) (by omega)) ?_
                                refine o_iret rfl rfl ?_
                                first
                                  | (exfalso; omega; done)
                                  | (refine ⟨rfl, ?_, ?_, ?_⟩
                                     · subst hh; exact ⟨⟨hS, hR, h6, hP⟩, Isg_c (g := g) (h := g) rfl rfl hsg, Itx_c (g := g) (h := g) rfl rfl rfl rfl htx, Iru_c (g := g) (h := g) (r := r) (by omega) hR (fun _ _ _ => rfl) (fun _ _ _ => rfl) rfl rfl rfl rfl rfl rfl rfl rfl hru, Iwd_c (g := g) (h := g) (by omega) rfl rfl rfl rfl rfl rfl hwd, Inw_c (g := g) (h := g) rfl rfl rfl rfl (fun _ _ _ => rfl) hnw, Ist_c (g := g) (h := g) (r := r) hR rfl rfl (fun _ _ _ => rfl) (fun _ _ _ => rfl) rfl rfl rfl rfl (fun _ _ => rfl) (fun _ _ => rfl) (fun _ _ => rfl) rfl rfl rfl hst, Ish_c (g := g) (h := g) rfl rfl rfl rfl rfl hsh, rfl⟩
                                     · subst hh; rfl
                                     · subst hh; rfl)
                                  | (refine ⟨congrArg (fun z => some (vI z)) ?_, ?_, ?_, ?_⟩
                                     · omega
                                     · subst hh; exact ⟨⟨hS, hR, h6, hP⟩, Isg_c (g := g) (h := g) rfl rfl hsg, Itx_c (g := g) (h := g) rfl rfl rfl rfl htx, Iru_c (g := g) (h := g) (r := r) (by omega) hR (fun _ _ _ => rfl) (fun _ _ _ => rfl) rfl rfl rfl rfl rfl rfl rfl rfl hru, Iwd_c (g := g) (h := g) (by omega) rfl rfl rfl rfl rfl rfl hwd, Inw_c (g := g) (h := g) rfl rfl rfl rfl (fun _ _ _ => rfl) hnw, Ist_c (g := g) (h := g) (r := r) hR rfl rfl (fun _ _ _ => rfl) (fun _ _ _ => rfl) rfl rfl rfl rfl (fun _ _ => rfl) (fun _ _ => rfl) (fun _ _ => rfl) rfl rfl rfl hst, Ish_c (g := g) (h := g) rfl rfl rfl rfl rfl hsh, rfl⟩
                                     · subst hh; rfl
                                     · subst hh; rfl)
                    · refine o_aload_n (n := 57) rfl rfl rfl ?_
                      refine o_iconst (n := 58) rfl rfl ?_
                      refine o_invi (n := 61) rfl rfl rfl rfl rfl rfl rfl rfl rfl rfl (c8_finds _ (by omega) (by omega)) ?_
                      refine o_iret rfl rfl ?_
                      first
                        | (exfalso; omega; done)
                        | (refine ⟨rfl, ?_, ?_, ?_⟩
                           · subst hh; exact ⟨⟨hS, hR, h6, hP⟩, Isg_c (g := g) (h := g) rfl rfl hsg, Itx_c (g := g) (h := g) rfl rfl rfl rfl htx, Iru_c (g := g) (h := g) (r := r) (by omega) hR (fun _ _ _ => rfl) (fun _ _ _ => rfl) rfl rfl rfl rfl rfl rfl rfl rfl hru, Iwd_c (g := g) (h := g) (by omega) rfl rfl rfl rfl rfl rfl hwd, Inw_c (g := g) (h := g) rfl rfl rfl rfl (fun _ _ _ => rfl) hnw, Ist_c (g := g) (h := g) (r := r) hR rfl rfl (fun _ _ _ => rfl) (fun _ _ _ => rfl) rfl rfl rfl rfl (fun _ _ => rfl) (fun _ _ => rfl) (fun _ _ => rfl) rfl rfl rfl hst, Ish_c (g := g) (h := g) rfl rfl rfl rfl rfl hsh, rfl⟩
                           · subst hh; rfl
                           · subst hh; rfl)
                        | (refine ⟨congrArg (fun z => some (vI z)) ?_, ?_, ?_, ?_⟩
                           · omega
                           · subst hh; exact ⟨⟨hS, hR, h6, hP⟩, Isg_c (g := g) (h := g) rfl rfl hsg, Itx_c (g := g) (h := g) rfl rfl rfl rfl htx, Iru_c (g := g) (h := g) (r := r) (by omega) hR (fun _ _ _ => rfl) (fun _ _ _ => rfl) rfl rfl rfl rfl rfl rfl rfl rfl hru, Iwd_c (g := g) (h := g) (by omega) rfl rfl rfl rfl rfl rfl hwd, Inw_c (g := g) (h := g) rfl rfl rfl rfl (fun _ _ _ => rfl) hnw, Ist_c (g := g) (h := g) (r := r) hR rfl rfl (fun _ _ _ => rfl) (fun _ _ _ => rfl) rfl rfl rfl rfl (fun _ _ => rfl) (fun _ _ => rfl) (fun _ _ => rfl) rfl rfl rfl hst, Ish_c (g := g) (h := g) rfl rfl rfl rfl rfl hsh, rfl⟩
                           · subst hh; rfl
                           · subst hh; rfl)
                  · refine o_aload_n (n := 36) rfl rfl rfl ?_
                    refine o_iconst (n := 37) rfl rfl ?_
                    refine o_invi (n := 40) rfl rfl rfl rfl rfl rfl rfl rfl rfl rfl (c8_finds _ (by omega) (by omega)) ?_
                    refine o_iret rfl rfl ?_
                    first
                      | (exfalso; omega; done)
                      | (refine ⟨rfl, ?_, ?_, ?_⟩
                         · subst hh; exact ⟨⟨hS, hR, h6, hP⟩, Isg_c (g := g) (h := g) rfl rfl hsg, Itx_c (g := g) (h := g) rfl rfl rfl rfl htx, Iru_c (g := g) (h := g) (r := r) (by omega) hR (fun _ _ _ => rfl) (fun _ _ _ => rfl) rfl rfl rfl rfl rfl rfl rfl rfl hru, Iwd_c (g := g) (h := g) (by omega) rfl rfl rfl rfl rfl rfl hwd, Inw_c (g := g) (h := g) rfl rfl rfl rfl (fun _ _ _ => rfl) hnw, Ist_c (g := g) (h := g) (r := r) hR rfl rfl (fun _ _ _ => rfl) (fun _ _ _ => rfl) rfl rfl rfl rfl (fun _ _ => rfl) (fun _ _ => rfl) (fun _ _ => rfl) rfl rfl rfl hst, Ish_c (g := g) (h := g) rfl rfl rfl rfl rfl hsh, rfl⟩
                         · subst hh; rfl
                         · subst hh; rfl)
                      | (refine ⟨congrArg (fun z => some (vI z)) ?_, ?_, ?_, ?_⟩
                         · omega
                         · subst hh; exact ⟨⟨hS, hR, h6, hP⟩, Isg_c (g := g) (h := g) rfl rfl hsg, Itx_c (g := g) (h := g) rfl rfl rfl rfl htx, Iru_c (g := g) (h := g) (r := r) (by omega) hR (fun _ _ _ => rfl) (fun _ _ _ => rfl) rfl rfl rfl rfl rfl rfl rfl rfl hru, Iwd_c (g := g) (h := g) (by omega) rfl rfl rfl rfl rfl rfl hwd, Inw_c (g := g) (h := g) rfl rfl rfl rfl (fun _ _ _ => rfl) hnw, Ist_c (g := g) (h := g) (r := r) hR rfl rfl (fun _ _ _ => rfl) (fun _ _ _ => rfl) rfl rfl rfl rfl (fun _ _ => rfl) (fun _ _ => rfl) (fun _ _ => rfl) rfl rfl rfl hst, Ish_c (g := g) (h := g) rfl rfl rfl rfl rfl hsh, rfl⟩
                         · subst hh; rfl
                         · subst hh; rfl)
              · refine o_bipush (n := 16) rfl rfl ?_
                refine o_iret rfl rfl ?_
                first
                  | (exfalso; omega; done)
                  | (refine ⟨rfl, ?_, ?_, ?_⟩
                     · subst hh; exact ⟨⟨hS, hR, h6, hP⟩, Isg_c (g := g) (h := g) rfl rfl hsg, Itx_c (g := g) (h := g) rfl rfl rfl rfl htx, Iru_c (g := g) (h := g) (r := r) (by omega) hR (fun _ _ _ => rfl) (fun _ _ _ => rfl) rfl rfl rfl rfl rfl rfl rfl rfl hru, Iwd_c (g := g) (h := g) (by omega) rfl rfl rfl rfl rfl rfl hwd, Inw_c (g := g) (h := g) rfl rfl rfl rfl (fun _ _ _ => rfl) hnw, Ist_c (g := g) (h := g) (r := r) hR rfl rfl (fun _ _ _ => rfl) (fun _ _ _ => rfl) rfl rfl rfl rfl (fun _ _ => rfl) (fun _ _ => rfl) (fun _ _ => rfl) rfl rfl rfl hst, Ish_c (g := g) (h := g) rfl rfl rfl rfl rfl hsh, Ila_c (g := g) (h := g) rfl rfl hla⟩
                     · subst hh; rfl
                     · subst hh; rfl)
                  | (refine ⟨congrArg (fun z => some (vI z)) ?_, ?_, ?_, ?_⟩
                     · omega
                     · subst hh; exact ⟨⟨hS, hR, h6, hP⟩, Isg_c (g := g) (h := g) rfl rfl hsg, Itx_c (g := g) (h := g) rfl rfl rfl rfl htx, Iru_c (g := g) (h := g) (r := r) (by omega) hR (fun _ _ _ => rfl) (fun _ _ _ => rfl) rfl rfl rfl rfl rfl rfl rfl rfl hru, Iwd_c (g := g) (h := g) (by omega) rfl rfl rfl rfl rfl rfl hwd, Inw_c (g := g) (h := g) rfl rfl rfl rfl (fun _ _ _ => rfl) hnw, Ist_c (g := g) (h := g) (r := r) hR rfl rfl (fun _ _ _ => rfl) (fun _ _ _ => rfl) rfl rfl rfl rfl (fun _ _ => rfl) (fun _ _ => rfl) (fun _ _ => rfl) rfl rfl rfl hst, Ish_c (g := g) (h := g) rfl rfl rfl rfl rfl hsh, Ila_c (g := g) (h := g) rfl rfl hla⟩
                     · subst hh; rfl
                     · subst hh; rfl)
        · refine o_aload_n (n := 52) rfl rfl rfl ?_
          refine o_iconst (n := 53) rfl rfl ?_
          refine o_invi (n := 56) rfl rfl rfl rfl rfl rfl rfl rfl rfl rfl (c7_found _ (by omega) (by omega)) ?_
          refine o_iret rfl rfl ?_
          refine q8_of (g := g) (r := r) (fun k hk => by first | rfl | exact gset_kf (isM_ne hk (by decide)) | exact (gset_kf (isM_ne hk (by decide))).trans (gset_kf (isM_ne hk (by decide))) | exact (gset_kf (isM_ne hk (by decide))).trans ((gset_kf (isM_ne hk (by decide))).trans (gset_kf (isM_ne hk (by decide)))) | exact (gset_kf (isM_ne hk (by decide))).trans ((gset_kf (isM_ne hk (by decide))).trans ((gset_kf (isM_ne hk (by decide))).trans (gset_kf (isM_ne hk (by decide)))))) hI (fun h hh hJ => ?_)
          show Ou 120 0 [vR 8 0, vI a, vI i, vI t, vI j, vI n, vN] [] h _ _
          obtain ⟨jsg1, jsg2, jsg3⟩ := hJ.2.1
          obtain ⟨jtx1, jtx2, jtx3, jtx4⟩ := hJ.2.2.1
          have jru0 : g 7 0 10 = h 8 0 8 := hJ.2.2.2.1.1.1
          have jru1 := hJ.2.2.2.1.2.1.1
          have jwd0 : g 1 0 1 = h 8 0 14 := hJ.2.2.2.2.1.1.1
          have jwd1 := hJ.2.2.2.2.1.2.1.1
          have jwd2 := hJ.2.2.2.2.1.2.2
          have jnw0 : g 0 0 0 = h 27 0 8 := hJ.2.2.2.2.2.1.1.1
          have jnw1 : g 0 0 1 = h 28 0 8 := hJ.2.2.2.2.2.1.1.2.1
          have jnw2 := hJ.2.2.2.2.2.1.2.1
          have jnw3 := hJ.2.2.2.2.2.1.2.2.1
          have jst0 := hJ.2.2.2.2.2.2.1.1
          have jst1 := hJ.2.2.2.2.2.2.1.2.1
          have jst2 := hJ.2.2.2.2.2.2.1.2.2.1
          have jla0 : g 7 0 13 = h 8 0 4 := hJ.2.2.2.2.2.2.2.2
          have jsh_a : (0 ≤ a ∧ a < 4) → (g 3 a 0 = h 17 0 a ∧ -1 ≤ h 17 0 a ∧ h 17 0 a ≤ 2 ∧ g 3 a 1 = h 18 0 a ∧ 0 ≤ h 18 0 a ∧ h 18 0 a ≤ 60) := fun z => by
            have := hJ.2.2.2.2.2.2.2.1 a z.1 z.2
            exact ⟨this.1.1, this.1.2.1, this.1.2.2, this.2.1.1, this.2.1.2.1, this.2.1.2.2⟩
          have jsh_t : (0 ≤ t ∧ t < 4) → (g 3 t 0 = h 17 0 t ∧ -1 ≤ h 17 0 t ∧ h 17 0 t ≤ 2 ∧ g 3 t 1 = h 18 0 t ∧ 0 ≤ h 18 0 t ∧ h 18 0 t ≤ 60) := fun z => by
            have := hJ.2.2.2.2.2.2.2.1 t z.1 z.2
            exact ⟨this.1.1, this.1.2.1, this.1.2.2, this.2.1.1, this.2.1.2.1, this.2.1.2.2⟩
          refine o_iload_n (n := 1) rfl rfl rfl ?_
          refine o_invsi (n := 4) rfl rfl rfl rfl rfl rfl (c8_isSheet _) ?_
          refine o_ifb_eq (n := 7) (t := 14) rfl rfl rfl (fun k4 => ?_) (fun k4 => ?_)
          · refine o_bipush (n := 16) rfl rfl ?_
            refine o_iret rfl rfl ?_
            first
              | (exfalso; omega; done)
              | (refine ⟨rfl, ?_, ?_, ?_⟩
                 · subst hh; exact ⟨⟨hS, hR, h6, hP⟩, Isg_c (g := g) (h := g) rfl rfl hsg, Itx_c (g := g) (h := g) rfl rfl rfl rfl htx, Iru_c (g := g) (h := g) (r := r) (by omega) hR (fun _ _ _ => rfl) (fun _ _ _ => rfl) rfl rfl rfl rfl rfl rfl rfl rfl hru, Iwd_c (g := g) (h := g) (by omega) rfl rfl rfl rfl rfl rfl hwd, Inw_c (g := g) (h := g) rfl rfl rfl rfl (fun _ _ _ => rfl) hnw, Ist_c (g := g) (h := g) (r := r) hR rfl rfl (fun _ _ _ => rfl) (fun _ _ _ => rfl) rfl rfl rfl rfl (fun _ _ => rfl) (fun _ _ => rfl) (fun _ _ => rfl) rfl rfl rfl hst, Ish_c (g := g) (h := g) rfl rfl rfl rfl rfl hsh, Ila_c (g := g) (h := g) rfl rfl hla⟩
                 · subst hh; rfl
                 · subst hh; rfl)
              | (refine ⟨congrArg (fun z => some (vI z)) ?_, ?_, ?_, ?_⟩
                 · omega
                 · subst hh; exact ⟨⟨hS, hR, h6, hP⟩, Isg_c (g := g) (h := g) rfl rfl hsg, Itx_c (g := g) (h := g) rfl rfl rfl rfl htx, Iru_c (g := g) (h := g) (r := r) (by omega) hR (fun _ _ _ => rfl) (fun _ _ _ => rfl) rfl rfl rfl rfl rfl rfl rfl rfl hru, Iwd_c (g := g) (h := g) (by omega) rfl rfl rfl rfl rfl rfl hwd, Inw_c (g := g) (h := g) rfl rfl rfl rfl (fun _ _ _ => rfl) hnw, Ist_c (g := g) (h := g) (r := r) hR rfl rfl (fun _ _ _ => rfl) (fun _ _ _ => rfl) rfl rfl rfl rfl (fun _ _ => rfl) (fun _ _ => rfl) (fun _ _ => rfl) rfl rfl rfl hst, Ish_c (g := g) (h := g) rfl rfl rfl rfl rfl hsh, Ila_c (g := g) (h := g) rfl rfl hla⟩
                 · subst hh; rfl
                 · subst hh; rfl)
          · refine o_iload_n (n := 8) rfl rfl rfl ?_
            refine o_invsi (n := 11) rfl rfl rfl rfl rfl rfl (c8_isSheet _) ?_
            refine o_ifb_ne (n := 14) (t := 17) rfl rfl rfl (fun k11 => ?_) (fun k11 => ?_)
            · refine o_aload_n (n := 18) rfl rfl rfl ?_
              refine of_8_0 (n := 21) hS rfl rfl ?_
              refine o_iload_n (n := 22) rfl rfl rfl ?_
              refine o_iald (n := 23) (L := 4) rfl rfl rfl rfl rfl (by omega) (by omega) ?_
              refine o_if_lt (n := 26) (t := 35) rfl rfl rfl (fun k23 => ?_) (fun k23 => ?_)
              · refine o_aload_n (n := 36) rfl rfl rfl ?_
                refine o_iconst (n := 37) rfl rfl ?_
                refine o_invi (n := 40) rfl rfl rfl rfl rfl rfl rfl rfl rfl rfl (c8_finds _ (by omega) (by omega)) ?_
                refine o_iret rfl rfl ?_
                first
                  | (exfalso; omega; done)
                  | (refine ⟨rfl, ?_, ?_, ?_⟩
                     · subst hh; exact ⟨⟨hS, hR, h6, hP⟩, Isg_c (g := g) (h := g) rfl rfl hsg, Itx_c (g := g) (h := g) rfl rfl rfl rfl htx, Iru_c (g := g) (h := g) (r := r) (by omega) hR (fun _ _ _ => rfl) (fun _ _ _ => rfl) rfl rfl rfl rfl rfl rfl rfl rfl hru, Iwd_c (g := g) (h := g) (by omega) rfl rfl rfl rfl rfl rfl hwd, Inw_c (g := g) (h := g) rfl rfl rfl rfl (fun _ _ _ => rfl) hnw, Ist_c (g := g) (h := g) (r := r) hR rfl rfl (fun _ _ _ => rfl) (fun _ _ _ => rfl) rfl rfl rfl rfl (fun _ _ => rfl) (fun _ _ => rfl) (fun _ _ => rfl) rfl rfl rfl hst, Ish_c (g := g) (h := g) rfl rfl rfl rfl rfl hsh, rfl⟩
                     · subst hh; rfl
                     · subst hh; rfl)
                  | (refine ⟨congrArg (fun z => some (vI z)) ?_, ?_, ?_, ?_⟩
                     · omega
                     · subst hh; exact ⟨⟨hS, hR, h6, hP⟩, Isg_c (g := g) (h := g) rfl rfl hsg, Itx_c (g := g) (h := g) rfl rfl rfl rfl htx, Iru_c (g := g) (h := g) (r := r) (by omega) hR (fun _ _ _ => rfl) (fun _ _ _ => rfl) rfl rfl rfl rfl rfl rfl rfl rfl hru, Iwd_c (g := g) (h := g) (by omega) rfl rfl rfl rfl rfl rfl hwd, Inw_c (g := g) (h := g) rfl rfl rfl rfl (fun _ _ _ => rfl) hnw, Ist_c (g := g) (h := g) (r := r) hR rfl rfl (fun _ _ _ => rfl) (fun _ _ _ => rfl) rfl rfl rfl rfl (fun _ _ => rfl) (fun _ _ => rfl) (fun _ _ => rfl) rfl rfl rfl hst, Ish_c (g := g) (h := g) rfl rfl rfl rfl rfl hsh, rfl⟩
                     · subst hh; rfl
                     · subst hh; rfl)
              · refine o_aload_n (n := 27) rfl rfl rfl ?_
                refine of_8_0 (n := 30) hS rfl rfl ?_
                refine o_iload_n (n := 31) rfl rfl rfl ?_
                refine o_iald (n := 32) (L := 4) rfl rfl rfl rfl rfl (by omega) (by omega) ?_
                refine o_if_ge (n := 35) (t := 41) rfl rfl rfl (fun k32 => ?_) (fun k32 => ?_)
                · refine o_aload_n (n := 42) rfl rfl rfl ?_
                  refine of_8_0 (n := 45) hS rfl rfl ?_
                  refine o_iload_n (n := 46) rfl rfl rfl ?_
                  refine o_iald (n := 47) (L := 4) rfl rfl rfl rfl rfl (by omega) (by omega) ?_
                  refine o_aload_n (n := 48) rfl rfl rfl ?_
                  refine of_8_0 (n := 51) hS rfl rfl ?_
                  refine o_iload_n (n := 52) rfl rfl rfl ?_
                  refine o_iald (n := 53) (L := 4) rfl rfl rfl rfl rfl (by omega) (by omega) ?_
                  refine o_icmp_eq (n := 56) (t := 62) rfl rfl rfl (fun k53 => ?_) (fun k53 => ?_)
                  · refine o_iload_n (n := 63) rfl rfl rfl ?_
                    refine o_if_lt (n := 66) (t := 111) rfl rfl rfl (fun k63 => ?_) (fun k63 => ?_)
                    · refine o_aload_n (n := 112) rfl rfl rfl ?_
                      refine o_iconst (n := 113) rfl rfl ?_
                      refine o_invi (n := 116) rfl rfl rfl rfl rfl rfl rfl rfl rfl rfl (c8_finds _ (by omega) (by omega)) ?_
                      refine o_iret rfl rfl ?_
                      first
                        | (exfalso; omega; done)
                        | (refine ⟨rfl, ?_, ?_, ?_⟩
                           · subst hh; exact ⟨⟨hS, hR, h6, hP⟩, Isg_c (g := g) (h := g) rfl rfl hsg, Itx_c (g := g) (h := g) rfl rfl rfl rfl htx, Iru_c (g := g) (h := g) (r := r) (by omega) hR (fun _ _ _ => rfl) (fun _ _ _ => rfl) rfl rfl rfl rfl rfl rfl rfl rfl hru, Iwd_c (g := g) (h := g) (by omega) rfl rfl rfl rfl rfl rfl hwd, Inw_c (g := g) (h := g) rfl rfl rfl rfl (fun _ _ _ => rfl) hnw, Ist_c (g := g) (h := g) (r := r) hR rfl rfl (fun _ _ _ => rfl) (fun _ _ _ => rfl) rfl rfl rfl rfl (fun _ _ => rfl) (fun _ _ => rfl) (fun _ _ => rfl) rfl rfl rfl hst, Ish_c (g := g) (h := g) rfl rfl rfl rfl rfl hsh, rfl⟩
                           · subst hh; rfl
                           · subst hh; rfl)
                        | (refine ⟨congrArg (fun z => some (vI z)) ?_, ?_, ?_, ?_⟩
                           · omega
                           · subst hh; exact ⟨⟨hS, hR, h6, hP⟩, Isg_c (g := g) (h := g) rfl rfl hsg, Itx_c (g := g) (h := g) rfl rfl rfl rfl htx, Iru_c (g := g) (h := g) (r := r) (by omega) hR (fun _ _ _ => rfl) (fun _ _ _ => rfl) rfl rfl rfl rfl rfl rfl rfl rfl hru, Iwd_c (g := g) (h := g) (by omega) rfl rfl rfl rfl rfl rfl hwd, Inw_c (g := g) (h := g) rfl rfl rfl rfl (fun _ _ _ => rfl) hnw, Ist_c (g := g) (h := g) (r := r) hR rfl rfl (fun _ _ _ => rfl) (fun _ _ _ => rfl) rfl rfl rfl rfl (fun _ _ => rfl) (fun _ _ => rfl) (fun _ _ => rfl) rfl rfl rfl hst, Ish_c (g := g) (h := g) rfl rfl rfl rfl rfl hsh, rfl⟩
                           · subst hh; rfl
                           · subst hh; rfl)
                    · refine o_iload (n := 68) rfl rfl rfl ?_
                      refine o_if_lt (n := 71) (t := 111) rfl rfl rfl (fun k68 => ?_) (fun k68 => ?_)
                      · refine o_aload_n (n := 112) rfl rfl rfl ?_
                        refine o_iconst (n := 113) rfl rfl ?_
                        refine o_invi (n := 116) rfl rfl rfl rfl rfl rfl rfl rfl rfl rfl (c8_finds _ (by omega) (by omega)) ?_
                        refine o_iret rfl rfl ?_
                        first
                          | (exfalso; omega; done)
                          | (refine ⟨rfl, ?_, ?_, ?_⟩
                             · subst hh; exact ⟨⟨hS, hR, h6, hP⟩, Isg_c (g := g) (h := g) rfl rfl hsg, Itx_c (g := g) (h := g) rfl rfl rfl rfl htx, Iru_c (g := g) (h := g) (r := r) (by omega) hR (fun _ _ _ => rfl) (fun _ _ _ => rfl) rfl rfl rfl rfl rfl rfl rfl rfl hru, Iwd_c (g := g) (h := g) (by omega) rfl rfl rfl rfl rfl rfl hwd, Inw_c (g := g) (h := g) rfl rfl rfl rfl (fun _ _ _ => rfl) hnw, Ist_c (g := g) (h := g) (r := r) hR rfl rfl (fun _ _ _ => rfl) (fun _ _ _ => rfl) rfl rfl rfl rfl (fun _ _ => rfl) (fun _ _ => rfl) (fun _ _ => rfl) rfl rfl rfl hst, Ish_c (g := g) (h := g) rfl rfl rfl rfl rfl hsh, rfl⟩
                             · subst hh; rfl
                             · subst hh; rfl)
                          | (refine ⟨congrArg (fun z => some (vI z)) ?_, ?_, ?_, ?_⟩
                             · omega
                             · subst hh; exact ⟨⟨hS, hR, h6, hP⟩, Isg_c (g := g) (h := g) rfl rfl hsg, Itx_c (g := g) (h := g) rfl rfl rfl rfl htx, Iru_c (g := g) (h := g) (r := r) (by omega) hR (fun _ _ _ => rfl) (fun _ _ _ => rfl) rfl rfl rfl rfl rfl rfl rfl rfl hru, Iwd_c (g := g) (h := g) (by omega) rfl rfl rfl rfl rfl rfl hwd, Inw_c (g := g) (h := g) rfl rfl rfl rfl (fun _ _ _ => rfl) hnw, Ist_c (g := g) (h := g) (r := r) hR rfl rfl (fun _ _ _ => rfl) (fun _ _ _ => rfl) rfl rfl rfl rfl (fun _ _ => rfl) (fun _ _ => rfl) (fun _ _ => rfl) rfl rfl rfl hst, Ish_c (g := g) (h := g) rfl rfl rfl rfl rfl hsh, rfl⟩
                             · subst hh; rfl
                             · subst hh; rfl)
                      · refine o_iload (n := 73) rfl rfl rfl ?_
                        refine o_if_lt (n := 76) (t := 111) rfl rfl rfl (fun k73 => ?_) (fun k73 => ?_)
                        · refine o_aload_n (n := 112) rfl rfl rfl ?_
                          refine o_iconst (n := 113) rfl rfl ?_
                          refine o_invi (n := 116) rfl rfl rfl rfl rfl rfl rfl rfl rfl rfl (c8_finds _ (by omega) (by omega)) ?_
                          refine o_iret rfl rfl ?_
                          first
                            | (exfalso; omega; done)
                            | (refine ⟨rfl, ?_, ?_, ?_⟩
                               · subst hh; exact ⟨⟨hS, hR, h6, hP⟩, Isg_c (g := g) (h := g) rfl rfl hsg, Itx_c (g := g) (h := g) rfl rfl rfl rfl htx, Iru_c (g := g) (h := g) (r := r) (by omega) hR (fun _ _ _ => rfl) (fun _ _ _ => rfl) rfl rfl rfl rfl rfl rfl rfl rfl hru, Iwd_c (g := g) (h := g) (by omega) rfl rfl rfl rfl rfl rfl hwd, Inw_c (g := g) (h := g) rfl rfl rfl rfl (fun _ _ _ => rfl) hnw, Ist_c (g := g) (h := g) (r := r) hR rfl rfl (fun _ _ _ => rfl) (fun _ _ _ => rfl) rfl rfl rfl rfl (fun _ _ => rfl) (fun _ _ => rfl) (fun _ _ => rfl) rfl rfl rfl hst, Ish_c (g := g) (h := g) rfl rfl rfl rfl rfl hsh, rfl⟩
                               · subst hh; rfl
                               · subst hh; rfl)
                            | (refine ⟨congrArg (fun z => some (vI z)) ?_, ?_, ?_, ?_⟩
                               · omega
                               · subst hh; exact ⟨⟨hS, hR, h6, hP⟩, Isg_c (g := g) (h := g) rfl rfl hsg, Itx_c (g := g) (h := g) rfl rfl rfl rfl htx, Iru_c (g := g) (h := g) (r := r) (by omega) hR (fun _ _ _ => rfl) (fun _ _ _ => rfl) rfl rfl rfl rfl rfl rfl rfl rfl hru, Iwd_c (g := g) (h := g) (by omega) rfl rfl rfl rfl rfl rfl hwd, Inw_c (g := g) (h := g) rfl rfl rfl rfl (fun _ _ _ => rfl) hnw, Ist_c (g := g) (h := g) (r := r) hR rfl rfl (fun _ _ _ => rfl) (fun _ _ _ => rfl) rfl rfl rfl rfl (fun _ _ => rfl) (fun _ _ => rfl) (fun _ _ => rfl) rfl rfl rfl hst, Ish_c (g := g) (h := g) rfl rfl rfl rfl rfl hsh, rfl⟩
                               · subst hh; rfl
                               · subst hh; rfl)
                        · refine o_iload_n (n := 77) rfl rfl rfl ?_
                          refine o_i2l (n := 78) rfl rfl ?_
                          refine o_iload (n := 80) rfl rfl rfl ?_
                          refine o_i2l (n := 81) rfl rfl ?_
                          refine o_laddN (n := 82) rfl rfl (by omega) ?_
                          refine o_aload_n (n := 83) rfl rfl rfl ?_
                          refine of_8_1 (n := 86) hS rfl rfl ?_
                          refine o_iload_n (n := 87) rfl rfl rfl ?_
                          refine o_iald (n := 88) (L := 4) rfl rfl rfl rfl rfl (by omega) (by omega) ?_
                          refine o_i2l (n := 89) rfl rfl ?_
                          refine o_lcmp_gt (n := 93) (t := 111) rfl rfl rfl rfl (fun k89 => ?_) (fun k89 => ?_)
                          · refine o_aload_n (n := 112) rfl rfl rfl ?_
                            refine o_iconst (n := 113) rfl rfl ?_
                            refine o_invi (n := 116) rfl rfl rfl rfl rfl rfl rfl rfl rfl rfl (c8_finds _ (by omega) (by omega)) ?_
                            refine o_iret rfl rfl ?_
                            first
                              | (exfalso; omega; done)
                              | (refine ⟨rfl, ?_, ?_, ?_⟩
                                 · subst hh; exact ⟨⟨hS, hR, h6, hP⟩, Isg_c (g := g) (h := g) rfl rfl hsg, Itx_c (g := g) (h := g) rfl rfl rfl rfl htx, Iru_c (g := g) (h := g) (r := r) (by omega) hR (fun _ _ _ => rfl) (fun _ _ _ => rfl) rfl rfl rfl rfl rfl rfl rfl rfl hru, Iwd_c (g := g) (h := g) (by omega) rfl rfl rfl rfl rfl rfl hwd, Inw_c (g := g) (h := g) rfl rfl rfl rfl (fun _ _ _ => rfl) hnw, Ist_c (g := g) (h := g) (r := r) hR rfl rfl (fun _ _ _ => rfl) (fun _ _ _ => rfl) rfl rfl rfl rfl (fun _ _ => rfl) (fun _ _ => rfl) (fun _ _ => rfl) rfl rfl rfl hst, Ish_c (g := g) (h := g) rfl rfl rfl rfl rfl hsh, rfl⟩
                                 · subst hh; rfl
                                 · subst hh; rfl)
                              | (refine ⟨congrArg (fun z => some (vI z)) ?_, ?_, ?_, ?_⟩
                                 · omega
                                 · subst hh; exact ⟨⟨hS, hR, h6, hP⟩, Isg_c (g := g) (h := g) rfl rfl hsg, Itx_c (g := g) (h := g) rfl rfl rfl rfl htx, Iru_c (g := g) (h := g) (r := r) (by omega) hR (fun _ _ _ => rfl) (fun _ _ _ => rfl) rfl rfl rfl rfl rfl rfl rfl rfl hru, Iwd_c (g := g) (h := g) (by omega) rfl rfl rfl rfl rfl rfl hwd, Inw_c (g := g) (h := g) rfl rfl rfl rfl (fun _ _ _ => rfl) hnw, Ist_c (g := g) (h := g) (r := r) hR rfl rfl (fun _ _ _ => rfl) (fun _ _ _ => rfl) rfl rfl rfl rfl (fun _ _ => rfl) (fun _ _ => rfl) (fun _ _ => rfl) rfl rfl rfl hst, Ish_c (g := g) (h := g) rfl rfl rfl rfl rfl hsh, rfl⟩
                                 · subst hh; rfl
                                 · subst hh; rfl)
                          · refine o_iload (n := 95) rfl rfl rfl ?_
                            refine o_i2l (n := 96) rfl rfl ?_
                            refine o_iload (n := 98) rfl rfl rfl ?_
                            refine o_i2l (n := 99) rfl rfl ?_
                            refine o_laddN (n := 100) rfl rfl (by omega) ?_
                            refine o_aload_n (n := 101) rfl rfl rfl ?_
                            refine of_8_1 (n := 104) hS rfl rfl ?_
                            refine o_iload_n (n := 105) rfl rfl rfl ?_
                            refine o_iald (n := 106) (L := 4) rfl rfl rfl rfl rfl (by omega) (by omega) ?_
                            refine o_i2l (n := 107) rfl rfl ?_
                            refine o_lcmp_le (n := 111) (t := 117) rfl rfl rfl rfl (fun k107 => ?_) (fun k107 => ?_)
                            · refine o_iconst (n := 118) rfl rfl ?_
                              refine o_istore_6 (n := 120) rfl rfl rfl ?_
                              exfalso; omega
                            · refine o_aload_n (n := 112) rfl rfl rfl ?_
                              refine o_iconst (n := 113) rfl rfl ?_
                              refine o_invi (n := 116) rfl rfl rfl rfl rfl rfl rfl rfl rfl rfl (c8_finds _ (by omega) (by omega)) ?_
                              refine o_iret rfl rfl ?_
                              first
                                | (exfalso; omega; done)
                                | (refine ⟨rfl, ?_, ?_, ?_⟩
                                   · subst hh; exact ⟨⟨hS, hR, h6, hP⟩, Isg_c (g := g) (h := g) rfl rfl hsg, Itx_c (g := g) (h := g) rfl rfl rfl rfl htx, Iru_c (g := g) (h := g) (r := r) (by omega) hR (fun _ _ _ => rfl) (fun _ _ _ => rfl) rfl rfl rfl rfl rfl rfl rfl rfl hru, Iwd_c (g := g) (h := g) (by omega) rfl rfl rfl rfl rfl rfl hwd, Inw_c (g := g) (h := g) rfl rfl rfl rfl (fun _ _ _ => rfl) hnw, Ist_c (g := g) (h := g) (r := r) hR rfl rfl (fun _ _ _ => rfl) (fun _ _ _ => rfl) rfl rfl rfl rfl (fun _ _ => rfl) (fun _ _ => rfl) (fun _ _ => rfl) rfl rfl rfl hst, Ish_c (g := g) (h := g) rfl rfl rfl rfl rfl hsh, rfl⟩
                                   · subst hh; rfl
                                   · subst hh; rfl)
                                | (refine ⟨congrArg (fun z => some (vI z)) ?_, ?_, ?_, ?_⟩
                                   · omega
                                   · subst hh; exact ⟨⟨hS, hR, h6, hP⟩, Isg_c (g := g) (h := g) rfl rfl hsg, Itx_c (g := g) (h := g) rfl rfl rfl rfl htx, Iru_c (g := g) (h := g) (r := r) (by omega) hR (fun _ _ _ => rfl) (fun _ _ _ => rfl) rfl rfl rfl rfl rfl rfl rfl rfl hru, Iwd_c (g := g) (h := g) (by omega) rfl rfl rfl rfl rfl rfl hwd, Inw_c (g := g) (h := g) rfl rfl rfl rfl (fun _ _ _ => rfl) hnw, Ist_c (g := g) (h := g) (r := r) hR rfl rfl (fun _ _ _ => rfl) (fun _ _ _ => rfl) rfl rfl rfl rfl (fun _ _ => rfl) (fun _ _ => rfl) (fun _ _ => rfl) rfl rfl rfl hst, Ish_c (g := g) (h := g) rfl rfl rfl rfl rfl hsh, rfl⟩
                                   · subst hh; rfl
                                   · subst hh; rfl)
                  · refine o_aload_n (n := 57) rfl rfl rfl ?_
                    refine o_iconst (n := 58) rfl rfl ?_
                    refine o_invi (n := 61) rfl rfl rfl rfl rfl rfl rfl rfl rfl rfl (c8_finds _ (by omega) (by omega)) ?_
                    refine o_iret rfl rfl ?_
                    first
                      | (exfalso; omega; done)
                      | (refine ⟨rfl, ?_, ?_, ?_⟩
                         · subst hh; exact ⟨⟨hS, hR, h6, hP⟩, Isg_c (g := g) (h := g) rfl rfl hsg, Itx_c (g := g) (h := g) rfl rfl rfl rfl htx, Iru_c (g := g) (h := g) (r := r) (by omega) hR (fun _ _ _ => rfl) (fun _ _ _ => rfl) rfl rfl rfl rfl rfl rfl rfl rfl hru, Iwd_c (g := g) (h := g) (by omega) rfl rfl rfl rfl rfl rfl hwd, Inw_c (g := g) (h := g) rfl rfl rfl rfl (fun _ _ _ => rfl) hnw, Ist_c (g := g) (h := g) (r := r) hR rfl rfl (fun _ _ _ => rfl) (fun _ _ _ => rfl) rfl rfl rfl rfl (fun _ _ => rfl) (fun _ _ => rfl) (fun _ _ => rfl) rfl rfl rfl hst, Ish_c (g := g) (h := g) rfl rfl rfl rfl rfl hsh, rfl⟩
                         · subst hh; rfl
                         · subst hh; rfl)
                      | (refine ⟨congrArg (fun z => some (vI z)) ?_, ?_, ?_, ?_⟩
                         · omega
                         · subst hh; exact ⟨⟨hS, hR, h6, hP⟩, Isg_c (g := g) (h := g) rfl rfl hsg, Itx_c (g := g) (h := g) rfl rfl rfl rfl htx, Iru_c (g := g) (h := g) (r := r) (by omega) hR (fun _ _ _ => rfl) (fun _ _ _ => rfl) rfl rfl rfl rfl rfl rfl rfl rfl hru, Iwd_c (g := g) (h := g) (by omega) rfl rfl rfl rfl rfl rfl hwd, Inw_c (g := g) (h := g) rfl rfl rfl rfl (fun _ _ _ => rfl) hnw, Ist_c (g := g) (h := g) (r := r) hR rfl rfl (fun _ _ _ => rfl) (fun _ _ _ => rfl) rfl rfl rfl rfl (fun _ _ => rfl) (fun _ _ => rfl) (fun _ _ => rfl) rfl rfl rfl hst, Ish_c (g := g) (h := g) rfl rfl rfl rfl rfl hsh, rfl⟩
                         · subst hh; rfl
                         · subst hh; rfl)
                · refine o_aload_n (n := 36) rfl rfl rfl ?_
                  refine o_iconst (n := 37) rfl rfl ?_
                  refine o_invi (n := 40) rfl rfl rfl rfl rfl rfl rfl rfl rfl rfl (c8_finds _ (by omega) (by omega)) ?_
                  refine o_iret rfl rfl ?_
                  first
                    | (exfalso; omega; done)
                    | (refine ⟨rfl, ?_, ?_, ?_⟩
                       · subst hh; exact ⟨⟨hS, hR, h6, hP⟩, Isg_c (g := g) (h := g) rfl rfl hsg, Itx_c (g := g) (h := g) rfl rfl rfl rfl htx, Iru_c (g := g) (h := g) (r := r) (by omega) hR (fun _ _ _ => rfl) (fun _ _ _ => rfl) rfl rfl rfl rfl rfl rfl rfl rfl hru, Iwd_c (g := g) (h := g) (by omega) rfl rfl rfl rfl rfl rfl hwd, Inw_c (g := g) (h := g) rfl rfl rfl rfl (fun _ _ _ => rfl) hnw, Ist_c (g := g) (h := g) (r := r) hR rfl rfl (fun _ _ _ => rfl) (fun _ _ _ => rfl) rfl rfl rfl rfl (fun _ _ => rfl) (fun _ _ => rfl) (fun _ _ => rfl) rfl rfl rfl hst, Ish_c (g := g) (h := g) rfl rfl rfl rfl rfl hsh, rfl⟩
                       · subst hh; rfl
                       · subst hh; rfl)
                    | (refine ⟨congrArg (fun z => some (vI z)) ?_, ?_, ?_, ?_⟩
                       · omega
                       · subst hh; exact ⟨⟨hS, hR, h6, hP⟩, Isg_c (g := g) (h := g) rfl rfl hsg, Itx_c (g := g) (h := g) rfl rfl rfl rfl htx, Iru_c (g := g) (h := g) (r := r) (by omega) hR (fun _ _ _ => rfl) (fun _ _ _ => rfl) rfl rfl rfl rfl rfl rfl rfl rfl hru, Iwd_c (g := g) (h := g) (by omega) rfl rfl rfl rfl rfl rfl hwd, Inw_c (g := g) (h := g) rfl rfl rfl rfl (fun _ _ _ => rfl) hnw, Ist_c (g := g) (h := g) (r := r) hR rfl rfl (fun _ _ _ => rfl) (fun _ _ _ => rfl) rfl rfl rfl rfl (fun _ _ => rfl) (fun _ _ => rfl) (fun _ _ => rfl) rfl rfl rfl hst, Ish_c (g := g) (h := g) rfl rfl rfl rfl rfl hsh, rfl⟩
                       · subst hh; rfl
                       · subst hh; rfl)
            · refine o_bipush (n := 16) rfl rfl ?_
              refine o_iret rfl rfl ?_
              first
                | (exfalso; omega; done)
                | (refine ⟨rfl, ?_, ?_, ?_⟩
                   · subst hh; exact ⟨⟨hS, hR, h6, hP⟩, Isg_c (g := g) (h := g) rfl rfl hsg, Itx_c (g := g) (h := g) rfl rfl rfl rfl htx, Iru_c (g := g) (h := g) (r := r) (by omega) hR (fun _ _ _ => rfl) (fun _ _ _ => rfl) rfl rfl rfl rfl rfl rfl rfl rfl hru, Iwd_c (g := g) (h := g) (by omega) rfl rfl rfl rfl rfl rfl hwd, Inw_c (g := g) (h := g) rfl rfl rfl rfl (fun _ _ _ => rfl) hnw, Ist_c (g := g) (h := g) (r := r) hR rfl rfl (fun _ _ _ => rfl) (fun _ _ _ => rfl) rfl rfl rfl rfl (fun _ _ => rfl) (fun _ _ => rfl) (fun _ _ => rfl) rfl rfl rfl hst, Ish_c (g := g) (h := g) rfl rfl rfl rfl rfl hsh, Ila_c (g := g) (h := g) rfl rfl hla⟩
                   · subst hh; rfl
                   · subst hh; rfl)
                | (refine ⟨congrArg (fun z => some (vI z)) ?_, ?_, ?_, ?_⟩
                   · omega
                   · subst hh; exact ⟨⟨hS, hR, h6, hP⟩, Isg_c (g := g) (h := g) rfl rfl hsg, Itx_c (g := g) (h := g) rfl rfl rfl rfl htx, Iru_c (g := g) (h := g) (r := r) (by omega) hR (fun _ _ _ => rfl) (fun _ _ _ => rfl) rfl rfl rfl rfl rfl rfl rfl rfl hru, Iwd_c (g := g) (h := g) (by omega) rfl rfl rfl rfl rfl rfl hwd, Inw_c (g := g) (h := g) rfl rfl rfl rfl (fun _ _ _ => rfl) hnw, Ist_c (g := g) (h := g) (r := r) hR rfl rfl (fun _ _ _ => rfl) (fun _ _ _ => rfl) rfl rfl rfl rfl (fun _ _ => rfl) (fun _ _ => rfl) (fun _ _ => rfl) rfl rfl rfl hst, Ish_c (g := g) (h := g) rfl rfl rfl rfl rfl hsh, Ila_c (g := g) (h := g) rfl rfl hla⟩
                   · subst hh; rfl
                   · subst hh; rfl)
    · refine o_bipush (n := 16) rfl rfl ?_
      refine o_iret rfl rfl ?_
      refine q8_of (g := g) (r := r) (fun k hk => by first | rfl | exact gset_kf (isM_ne hk (by decide)) | exact (gset_kf (isM_ne hk (by decide))).trans (gset_kf (isM_ne hk (by decide))) | exact (gset_kf (isM_ne hk (by decide))).trans ((gset_kf (isM_ne hk (by decide))).trans (gset_kf (isM_ne hk (by decide)))) | exact (gset_kf (isM_ne hk (by decide))).trans ((gset_kf (isM_ne hk (by decide))).trans ((gset_kf (isM_ne hk (by decide))).trans (gset_kf (isM_ne hk (by decide)))))) hI (fun h hh hJ => ?_)
      show Ou 120 0 [vR 8 0, vI a, vI i, vI t, vI j, vI n, vN] [] h _ _
      obtain ⟨jsg1, jsg2, jsg3⟩ := hJ.2.1
      obtain ⟨jtx1, jtx2, jtx3, jtx4⟩ := hJ.2.2.1
      have jru0 : g 7 0 10 = h 8 0 8 := hJ.2.2.2.1.1.1
      have jru1 := hJ.2.2.2.1.2.1.1
      have jwd0 : g 1 0 1 = h 8 0 14 := hJ.2.2.2.2.1.1.1
      have jwd1 := hJ.2.2.2.2.1.2.1.1
      have jwd2 := hJ.2.2.2.2.1.2.2
      have jnw0 : g 0 0 0 = h 27 0 8 := hJ.2.2.2.2.2.1.1.1
      have jnw1 : g 0 0 1 = h 28 0 8 := hJ.2.2.2.2.2.1.1.2.1
      have jnw2 := hJ.2.2.2.2.2.1.2.1
      have jnw3 := hJ.2.2.2.2.2.1.2.2.1
      have jst0 := hJ.2.2.2.2.2.2.1.1
      have jst1 := hJ.2.2.2.2.2.2.1.2.1
      have jst2 := hJ.2.2.2.2.2.2.1.2.2.1
      have jla0 : g 7 0 13 = h 8 0 4 := hJ.2.2.2.2.2.2.2.2
      have jsh_a : (0 ≤ a ∧ a < 4) → (g 3 a 0 = h 17 0 a ∧ -1 ≤ h 17 0 a ∧ h 17 0 a ≤ 2 ∧ g 3 a 1 = h 18 0 a ∧ 0 ≤ h 18 0 a ∧ h 18 0 a ≤ 60) := fun z => by
        have := hJ.2.2.2.2.2.2.2.1 a z.1 z.2
        exact ⟨this.1.1, this.1.2.1, this.1.2.2, this.2.1.1, this.2.1.2.1, this.2.1.2.2⟩
      have jsh_t : (0 ≤ t ∧ t < 4) → (g 3 t 0 = h 17 0 t ∧ -1 ≤ h 17 0 t ∧ h 17 0 t ≤ 2 ∧ g 3 t 1 = h 18 0 t ∧ 0 ≤ h 18 0 t ∧ h 18 0 t ≤ 60) := fun z => by
        have := hJ.2.2.2.2.2.2.2.1 t z.1 z.2
        exact ⟨this.1.1, this.1.2.1, this.1.2.2, this.2.1.1, this.2.1.2.1, this.2.1.2.2⟩
      refine o_iload_n (n := 1) rfl rfl rfl ?_
      refine o_invsi (n := 4) rfl rfl rfl rfl rfl rfl (c8_isSheet _) ?_
      refine o_ifb_eq (n := 7) (t := 14) rfl rfl rfl (fun k4 => ?_) (fun k4 => ?_)
      · refine o_bipush (n := 16) rfl rfl ?_
        refine o_iret rfl rfl ?_
        first
          | (exfalso; omega; done)
          | (refine ⟨rfl, ?_, ?_, ?_⟩
             · subst hh; exact ⟨⟨hS, hR, h6, hP⟩, Isg_c (g := g) (h := g) rfl rfl hsg, Itx_c (g := g) (h := g) rfl rfl rfl rfl htx, Iru_c (g := g) (h := g) (r := r) (by omega) hR (fun _ _ _ => rfl) (fun _ _ _ => rfl) rfl rfl rfl rfl rfl rfl rfl rfl hru, Iwd_c (g := g) (h := g) (by omega) rfl rfl rfl rfl rfl rfl hwd, Inw_c (g := g) (h := g) rfl rfl rfl rfl (fun _ _ _ => rfl) hnw, Ist_c (g := g) (h := g) (r := r) hR rfl rfl (fun _ _ _ => rfl) (fun _ _ _ => rfl) rfl rfl rfl rfl (fun _ _ => rfl) (fun _ _ => rfl) (fun _ _ => rfl) rfl rfl rfl hst, Ish_c (g := g) (h := g) rfl rfl rfl rfl rfl hsh, Ila_c (g := g) (h := g) rfl rfl hla⟩
             · subst hh; rfl
             · subst hh; rfl)
          | (refine ⟨congrArg (fun z => some (vI z)) ?_, ?_, ?_, ?_⟩
             · omega
             · subst hh; exact ⟨⟨hS, hR, h6, hP⟩, Isg_c (g := g) (h := g) rfl rfl hsg, Itx_c (g := g) (h := g) rfl rfl rfl rfl htx, Iru_c (g := g) (h := g) (r := r) (by omega) hR (fun _ _ _ => rfl) (fun _ _ _ => rfl) rfl rfl rfl rfl rfl rfl rfl rfl hru, Iwd_c (g := g) (h := g) (by omega) rfl rfl rfl rfl rfl rfl hwd, Inw_c (g := g) (h := g) rfl rfl rfl rfl (fun _ _ _ => rfl) hnw, Ist_c (g := g) (h := g) (r := r) hR rfl rfl (fun _ _ _ => rfl) (fun _ _ _ => rfl) rfl rfl rfl rfl (fun _ _ => rfl) (fun _ _ => rfl) (fun _ _ => rfl) rfl rfl rfl hst, Ish_c (g := g) (h := g) rfl rfl rfl rfl rfl hsh, Ila_c (g := g) (h := g) rfl rfl hla⟩
             · subst hh; rfl
             · subst hh; rfl)
      · refine o_iload_n (n := 8) rfl rfl rfl ?_
        refine o_invsi (n := 11) rfl rfl rfl rfl rfl rfl (c8_isSheet _) ?_
        refine o_ifb_ne (n := 14) (t := 17) rfl rfl rfl (fun k11 => ?_) (fun k11 => ?_)
        · refine o_aload_n (n := 18) rfl rfl rfl ?_
          refine of_8_0 (n := 21) hS rfl rfl ?_
          refine o_iload_n (n := 22) rfl rfl rfl ?_
          refine o_iald (n := 23) (L := 4) rfl rfl rfl rfl rfl (by omega) (by omega) ?_
          refine o_if_lt (n := 26) (t := 35) rfl rfl rfl (fun k23 => ?_) (fun k23 => ?_)
          · refine o_aload_n (n := 36) rfl rfl rfl ?_
            refine o_iconst (n := 37) rfl rfl ?_
            refine o_invi (n := 40) rfl rfl rfl rfl rfl rfl rfl rfl rfl rfl (c8_finds _ (by omega) (by omega)) ?_
            refine o_iret rfl rfl ?_
            first
              | (exfalso; omega; done)
              | (refine ⟨rfl, ?_, ?_, ?_⟩
                 · subst hh; exact ⟨⟨hS, hR, h6, hP⟩, Isg_c (g := g) (h := g) rfl rfl hsg, Itx_c (g := g) (h := g) rfl rfl rfl rfl htx, Iru_c (g := g) (h := g) (r := r) (by omega) hR (fun _ _ _ => rfl) (fun _ _ _ => rfl) rfl rfl rfl rfl rfl rfl rfl rfl hru, Iwd_c (g := g) (h := g) (by omega) rfl rfl rfl rfl rfl rfl hwd, Inw_c (g := g) (h := g) rfl rfl rfl rfl (fun _ _ _ => rfl) hnw, Ist_c (g := g) (h := g) (r := r) hR rfl rfl (fun _ _ _ => rfl) (fun _ _ _ => rfl) rfl rfl rfl rfl (fun _ _ => rfl) (fun _ _ => rfl) (fun _ _ => rfl) rfl rfl rfl hst, Ish_c (g := g) (h := g) rfl rfl rfl rfl rfl hsh, rfl⟩
                 · subst hh; rfl
                 · subst hh; rfl)
              | (refine ⟨congrArg (fun z => some (vI z)) ?_, ?_, ?_, ?_⟩
                 · omega
                 · subst hh; exact ⟨⟨hS, hR, h6, hP⟩, Isg_c (g := g) (h := g) rfl rfl hsg, Itx_c (g := g) (h := g) rfl rfl rfl rfl htx, Iru_c (g := g) (h := g) (r := r) (by omega) hR (fun _ _ _ => rfl) (fun _ _ _ => rfl) rfl rfl rfl rfl rfl rfl rfl rfl hru, Iwd_c (g := g) (h := g) (by omega) rfl rfl rfl rfl rfl rfl hwd, Inw_c (g := g) (h := g) rfl rfl rfl rfl (fun _ _ _ => rfl) hnw, Ist_c (g := g) (h := g) (r := r) hR rfl rfl (fun _ _ _ => rfl) (fun _ _ _ => rfl) rfl rfl rfl rfl (fun _ _ => rfl) (fun _ _ => rfl) (fun _ _ => rfl) rfl rfl rfl hst, Ish_c (g := g) (h := g) rfl rfl rfl rfl rfl hsh, rfl⟩
                 · subst hh; rfl
                 · subst hh; rfl)
          · refine o_aload_n (n := 27) rfl rfl rfl ?_
            refine of_8_0 (n := 30) hS rfl rfl ?_
            refine o_iload_n (n := 31) rfl rfl rfl ?_
            refine o_iald (n := 32) (L := 4) rfl rfl rfl rfl rfl (by omega) (by omega) ?_
            refine o_if_ge (n := 35) (t := 41) rfl rfl rfl (fun k32 => ?_) (fun k32 => ?_)
            · refine o_aload_n (n := 42) rfl rfl rfl ?_
              refine of_8_0 (n := 45) hS rfl rfl ?_
              refine o_iload_n (n := 46) rfl rfl rfl ?_
              refine o_iald (n := 47) (L := 4) rfl rfl rfl rfl rfl (by omega) (by omega) ?_
              refine o_aload_n (n := 48) rfl rfl rfl ?_
              refine of_8_0 (n := 51) hS rfl rfl ?_
              refine o_iload_n (n := 52) rfl rfl rfl ?_
              refine o_iald (n := 53) (L := 4) rfl rfl rfl rfl rfl (by omega) (by omega) ?_
              refine o_icmp_eq (n := 56) (t := 62) rfl rfl rfl (fun k53 => ?_) (fun k53 => ?_)
              · refine o_iload_n (n := 63) rfl rfl rfl ?_
                refine o_if_lt (n := 66) (t := 111) rfl rfl rfl (fun k63 => ?_) (fun k63 => ?_)
                · refine o_aload_n (n := 112) rfl rfl rfl ?_
                  refine o_iconst (n := 113) rfl rfl ?_
                  refine o_invi (n := 116) rfl rfl rfl rfl rfl rfl rfl rfl rfl rfl (c8_finds _ (by omega) (by omega)) ?_
                  refine o_iret rfl rfl ?_
                  first
                    | (exfalso; omega; done)
                    | (refine ⟨rfl, ?_, ?_, ?_⟩
                       · subst hh; exact ⟨⟨hS, hR, h6, hP⟩, Isg_c (g := g) (h := g) rfl rfl hsg, Itx_c (g := g) (h := g) rfl rfl rfl rfl htx, Iru_c (g := g) (h := g) (r := r) (by omega) hR (fun _ _ _ => rfl) (fun _ _ _ => rfl) rfl rfl rfl rfl rfl rfl rfl rfl hru, Iwd_c (g := g) (h := g) (by omega) rfl rfl rfl rfl rfl rfl hwd, Inw_c (g := g) (h := g) rfl rfl rfl rfl (fun _ _ _ => rfl) hnw, Ist_c (g := g) (h := g) (r := r) hR rfl rfl (fun _ _ _ => rfl) (fun _ _ _ => rfl) rfl rfl rfl rfl (fun _ _ => rfl) (fun _ _ => rfl) (fun _ _ => rfl) rfl rfl rfl hst, Ish_c (g := g) (h := g) rfl rfl rfl rfl rfl hsh, rfl⟩
                       · subst hh; rfl
                       · subst hh; rfl)
                    | (refine ⟨congrArg (fun z => some (vI z)) ?_, ?_, ?_, ?_⟩
                       · omega
                       · subst hh; exact ⟨⟨hS, hR, h6, hP⟩, Isg_c (g := g) (h := g) rfl rfl hsg, Itx_c (g := g) (h := g) rfl rfl rfl rfl htx, Iru_c (g := g) (h := g) (r := r) (by omega) hR (fun _ _ _ => rfl) (fun _ _ _ => rfl) rfl rfl rfl rfl rfl rfl rfl rfl hru, Iwd_c (g := g) (h := g) (by omega) rfl rfl rfl rfl rfl rfl hwd, Inw_c (g := g) (h := g) rfl rfl rfl rfl (fun _ _ _ => rfl) hnw, Ist_c (g := g) (h := g) (r := r) hR rfl rfl (fun _ _ _ => rfl) (fun _ _ _ => rfl) rfl rfl rfl rfl (fun _ _ => rfl) (fun _ _ => rfl) (fun _ _ => rfl) rfl rfl rfl hst, Ish_c (g := g) (h := g) rfl rfl rfl rfl rfl hsh, rfl⟩
                       · subst hh; rfl
                       · subst hh; rfl)
                · refine o_iload (n := 68) rfl rfl rfl ?_
                  refine o_if_lt (n := 71) (t := 111) rfl rfl rfl (fun k68 => ?_) (fun k68 => ?_)
                  · refine o_aload_n (n := 112) rfl rfl rfl ?_
                    refine o_iconst (n := 113) rfl rfl ?_
                    refine o_invi (n := 116) rfl rfl rfl rfl rfl rfl rfl rfl rfl rfl (c8_finds _ (by omega) (by omega)) ?_
                    refine o_iret rfl rfl ?_
                    first
                      | (exfalso; omega; done)
                      | (refine ⟨rfl, ?_, ?_, ?_⟩
                         · subst hh; exact ⟨⟨hS, hR, h6, hP⟩, Isg_c (g := g) (h := g) rfl rfl hsg, Itx_c (g := g) (h := g) rfl rfl rfl rfl htx, Iru_c (g := g) (h := g) (r := r) (by omega) hR (fun _ _ _ => rfl) (fun _ _ _ => rfl) rfl rfl rfl rfl rfl rfl rfl rfl hru, Iwd_c (g := g) (h := g) (by omega) rfl rfl rfl rfl rfl rfl hwd, Inw_c (g := g) (h := g) rfl rfl rfl rfl (fun _ _ _ => rfl) hnw, Ist_c (g := g) (h := g) (r := r) hR rfl rfl (fun _ _ _ => rfl) (fun _ _ _ => rfl) rfl rfl rfl rfl (fun _ _ => rfl) (fun _ _ => rfl) (fun _ _ => rfl) rfl rfl rfl hst, Ish_c (g := g) (h := g) rfl rfl rfl rfl rfl hsh, rfl⟩
                         · subst hh; rfl
                         · subst hh; rfl)
                      | (refine ⟨congrArg (fun z => some (vI z)) ?_, ?_, ?_, ?_⟩
                         · omega
                         · subst hh; exact ⟨⟨hS, hR, h6, hP⟩, Isg_c (g := g) (h := g) rfl rfl hsg, Itx_c (g := g) (h := g) rfl rfl rfl rfl htx, Iru_c (g := g) (h := g) (r := r) (by omega) hR (fun _ _ _ => rfl) (fun _ _ _ => rfl) rfl rfl rfl rfl rfl rfl rfl rfl hru, Iwd_c (g := g) (h := g) (by omega) rfl rfl rfl rfl rfl rfl hwd, Inw_c (g := g) (h := g) rfl rfl rfl rfl (fun _ _ _ => rfl) hnw, Ist_c (g := g) (h := g) (r := r) hR rfl rfl (fun _ _ _ => rfl) (fun _ _ _ => rfl) rfl rfl rfl rfl (fun _ _ => rfl) (fun _ _ => rfl) (fun _ _ => rfl) rfl rfl rfl hst, Ish_c (g := g) (h := g) rfl rfl rfl rfl rfl hsh, rfl⟩
                         · subst hh; rfl
                         · subst hh; rfl)
                  · refine o_iload (n := 73) rfl rfl rfl ?_
                    refine o_if_lt (n := 76) (t := 111) rfl rfl rfl (fun k73 => ?_) (fun k73 => ?_)
                    · refine o_aload_n (n := 112) rfl rfl rfl ?_
                      refine o_iconst (n := 113) rfl rfl ?_
                      refine o_invi (n := 116) rfl rfl rfl rfl rfl rfl rfl rfl rfl rfl (c8_finds _ (by omega) (by omega)) ?_
                      refine o_iret rfl rfl ?_
                      first
                        | (exfalso; omega; done)
                        | (refine ⟨rfl, ?_, ?_, ?_⟩
                           · subst hh; exact ⟨⟨hS, hR, h6, hP⟩, Isg_c (g := g) (h := g) rfl rfl hsg, Itx_c (g := g) (h := g) rfl rfl rfl rfl htx, Iru_c (g := g) (h := g) (r := r) (by omega) hR (fun _ _ _ => rfl) (fun _ _ _ => rfl) rfl rfl rfl rfl rfl rfl rfl rfl hru, Iwd_c (g := g) (h := g) (by omega) rfl rfl rfl rfl rfl rfl hwd, Inw_c (g := g) (h := g) rfl rfl rfl rfl (fun _ _ _ => rfl) hnw, Ist_c (g := g) (h := g) (r := r) hR rfl rfl (fun _ _ _ => rfl) (fun _ _ _ => rfl) rfl rfl rfl rfl (fun _ _ => rfl) (fun _ _ => rfl) (fun _ _ => rfl) rfl rfl rfl hst, Ish_c (g := g) (h := g) rfl rfl rfl rfl rfl hsh, rfl⟩
                           · subst hh; rfl
                           · subst hh; rfl)
                        | (refine ⟨congrArg (fun z => some (vI z)) ?_, ?_, ?_, ?_⟩
                           · omega
                           · subst hh; exact ⟨⟨hS, hR, h6, hP⟩, Isg_c (g := g) (h := g) rfl rfl hsg, Itx_c (g := g) (h := g) rfl rfl rfl rfl htx, Iru_c (g := g) (h := g) (r := r) (by omega) hR (fun _ _ _ => rfl) (fun _ _ _ => rfl) rfl rfl rfl rfl rfl rfl rfl rfl hru, Iwd_c (g := g) (h := g) (by omega) rfl rfl rfl rfl rfl rfl hwd, Inw_c (g := g) (h := g) rfl rfl rfl rfl (fun _ _ _ => rfl) hnw, Ist_c (g := g) (h := g) (r := r) hR rfl rfl (fun _ _ _ => rfl) (fun _ _ _ => rfl) rfl rfl rfl rfl (fun _ _ => rfl) (fun _ _ => rfl) (fun _ _ => rfl) rfl rfl rfl hst, Ish_c (g := g) (h := g) rfl rfl rfl rfl rfl hsh, rfl⟩
                           · subst hh; rfl
                           · subst hh; rfl)
                    · refine o_iload_n (n := 77) rfl rfl rfl ?_
                      refine o_i2l (n := 78) rfl rfl ?_
                      refine o_iload (n := 80) rfl rfl rfl ?_
                      refine o_i2l (n := 81) rfl rfl ?_
                      refine o_laddN (n := 82) rfl rfl (by omega) ?_
                      refine o_aload_n (n := 83) rfl rfl rfl ?_
                      refine of_8_1 (n := 86) hS rfl rfl ?_
                      refine o_iload_n (n := 87) rfl rfl rfl ?_
                      refine o_iald (n := 88) (L := 4) rfl rfl rfl rfl rfl (by omega) (by omega) ?_
                      refine o_i2l (n := 89) rfl rfl ?_
                      refine o_lcmp_gt (n := 93) (t := 111) rfl rfl rfl rfl (fun k89 => ?_) (fun k89 => ?_)
                      · refine o_aload_n (n := 112) rfl rfl rfl ?_
                        refine o_iconst (n := 113) rfl rfl ?_
                        refine o_invi (n := 116) rfl rfl rfl rfl rfl rfl rfl rfl rfl rfl (c8_finds _ (by omega) (by omega)) ?_
                        refine o_iret rfl rfl ?_
                        first
                          | (exfalso; omega; done)
                          | (refine ⟨rfl, ?_, ?_, ?_⟩
                             · subst hh; exact ⟨⟨hS, hR, h6, hP⟩, Isg_c (g := g) (h := g) rfl rfl hsg, Itx_c (g := g) (h := g) rfl rfl rfl rfl htx, Iru_c (g := g) (h := g) (r := r) (by omega) hR (fun _ _ _ => rfl) (fun _ _ _ => rfl) rfl rfl rfl rfl rfl rfl rfl rfl hru, Iwd_c (g := g) (h := g) (by omega) rfl rfl rfl rfl rfl rfl hwd, Inw_c (g := g) (h := g) rfl rfl rfl rfl (fun _ _ _ => rfl) hnw, Ist_c (g := g) (h := g) (r := r) hR rfl rfl (fun _ _ _ => rfl) (fun _ _ _ => rfl) rfl rfl rfl rfl (fun _ _ => rfl) (fun _ _ => rfl) (fun _ _ => rfl) rfl rfl rfl hst, Ish_c (g := g) (h := g) rfl rfl rfl rfl rfl hsh, rfl⟩
                             · subst hh; rfl
                             · subst hh; rfl)
                          | (refine ⟨congrArg (fun z => some (vI z)) ?_, ?_, ?_, ?_⟩
                             · omega
                             · subst hh; exact ⟨⟨hS, hR, h6, hP⟩, Isg_c (g := g) (h := g) rfl rfl hsg, Itx_c (g := g) (h := g) rfl rfl rfl rfl htx, Iru_c (g := g) (h := g) (r := r) (by omega) hR (fun _ _ _ => rfl) (fun _ _ _ => rfl) rfl rfl rfl rfl rfl rfl rfl rfl hru, Iwd_c (g := g) (h := g) (by omega) rfl rfl rfl rfl rfl rfl hwd, Inw_c (g := g) (h := g) rfl rfl rfl rfl (fun _ _ _ => rfl) hnw, Ist_c (g := g) (h := g) (r := r) hR rfl rfl (fun _ _ _ => rfl) (fun _ _ _ => rfl) rfl rfl rfl rfl (fun _ _ => rfl) (fun _ _ => rfl) (fun _ _ => rfl) rfl rfl rfl hst, Ish_c (g := g) (h := g) rfl rfl rfl rfl rfl hsh, rfl⟩
                             · subst hh; rfl
                             · subst hh; rfl)
                      · refine o_iload (n := 95) rfl rfl rfl ?_
                        refine o_i2l (n := 96) rfl rfl ?_
                        refine o_iload (n := 98) rfl rfl rfl ?_
                        refine o_i2l (n := 99) rfl rfl ?_
                        refine o_laddN (n := 100) rfl rfl (by omega) ?_
                        refine o_aload_n (n := 101) rfl rfl rfl ?_
                        refine of_8_1 (n := 104) hS rfl rfl ?_
                        refine o_iload_n (n := 105) rfl rfl rfl ?_
                        refine o_iald (n := 106) (L := 4) rfl rfl rfl rfl rfl (by omega) (by omega) ?_
                        refine o_i2l (n := 107) rfl rfl ?_
                        refine o_lcmp_le (n := 111) (t := 117) rfl rfl rfl rfl (fun k107 => ?_) (fun k107 => ?_)
                        · refine o_iconst (n := 118) rfl rfl ?_
                          refine o_istore_6 (n := 120) rfl rfl rfl ?_
                          exfalso; omega
                        · refine o_aload_n (n := 112) rfl rfl rfl ?_
                          refine o_iconst (n := 113) rfl rfl ?_
                          refine o_invi (n := 116) rfl rfl rfl rfl rfl rfl rfl rfl rfl rfl (c8_finds _ (by omega) (by omega)) ?_
                          refine o_iret rfl rfl ?_
                          first
                            | (exfalso; omega; done)
                            | (refine ⟨rfl, ?_, ?_, ?_⟩
                               · subst hh; exact ⟨⟨hS, hR, h6, hP⟩, Isg_c (g := g) (h := g) rfl rfl hsg, Itx_c (g := g) (h := g) rfl rfl rfl rfl htx, Iru_c (g := g) (h := g) (r := r) (by omega) hR (fun _ _ _ => rfl) (fun _ _ _ => rfl) rfl rfl rfl rfl rfl rfl rfl rfl hru, Iwd_c (g := g) (h := g) (by omega) rfl rfl rfl rfl rfl rfl hwd, Inw_c (g := g) (h := g) rfl rfl rfl rfl (fun _ _ _ => rfl) hnw, Ist_c (g := g) (h := g) (r := r) hR rfl rfl (fun _ _ _ => rfl) (fun _ _ _ => rfl) rfl rfl rfl rfl (fun _ _ => rfl) (fun _ _ => rfl) (fun _ _ => rfl) rfl rfl rfl hst, Ish_c (g := g) (h := g) rfl rfl rfl rfl rfl hsh, rfl⟩
                               · subst hh; rfl
                               · subst hh; rfl)
                            | (refine ⟨congrArg (fun z => some (vI z)) ?_, ?_, ?_, ?_⟩
                               · omega
                               · subst hh; exact ⟨⟨hS, hR, h6, hP⟩, Isg_c (g := g) (h := g) rfl rfl hsg, Itx_c (g := g) (h := g) rfl rfl rfl rfl htx, Iru_c (g := g) (h := g) (r := r) (by omega) hR (fun _ _ _ => rfl) (fun _ _ _ => rfl) rfl rfl rfl rfl rfl rfl rfl rfl hru, Iwd_c (g := g) (h := g) (by omega) rfl rfl rfl rfl rfl rfl hwd, Inw_c (g := g) (h := g) rfl rfl rfl rfl (fun _ _ _ => rfl) hnw, Ist_c (g := g) (h := g) (r := r) hR rfl rfl (fun _ _ _ => rfl) (fun _ _ _ => rfl) rfl rfl rfl rfl (fun _ _ => rfl) (fun _ _ => rfl) (fun _ _ => rfl) rfl rfl rfl hst, Ish_c (g := g) (h := g) rfl rfl rfl rfl rfl hsh, rfl⟩
                               · subst hh; rfl
                               · subst hh; rfl)
              · refine o_aload_n (n := 57) rfl rfl rfl ?_
                refine o_iconst (n := 58) rfl rfl ?_
                refine o_invi (n := 61) rfl rfl rfl rfl rfl rfl rfl rfl rfl rfl (c8_finds _ (by omega) (by omega)) ?_
                refine o_iret rfl rfl ?_
                first
                  | (exfalso; omega; done)
                  | (refine ⟨rfl, ?_, ?_, ?_⟩
                     · subst hh; exact ⟨⟨hS, hR, h6, hP⟩, Isg_c (g := g) (h := g) rfl rfl hsg, Itx_c (g := g) (h := g) rfl rfl rfl rfl htx, Iru_c (g := g) (h := g) (r := r) (by omega) hR (fun _ _ _ => rfl) (fun _ _ _ => rfl) rfl rfl rfl rfl rfl rfl rfl rfl hru, Iwd_c (g := g) (h := g) (by omega) rfl rfl rfl rfl rfl rfl hwd, Inw_c (g := g) (h := g) rfl rfl rfl rfl (fun _ _ _ => rfl) hnw, Ist_c (g := g) (h := g) (r := r) hR rfl rfl (fun _ _ _ => rfl) (fun _ _ _ => rfl) rfl rfl rfl rfl (fun _ _ => rfl) (fun _ _ => rfl) (fun _ _ => rfl) rfl rfl rfl hst, Ish_c (g := g) (h := g) rfl rfl rfl rfl rfl hsh, rfl⟩
                     · subst hh; rfl
                     · subst hh; rfl)
                  | (refine ⟨congrArg (fun z => some (vI z)) ?_, ?_, ?_, ?_⟩
                     · omega
                     · subst hh; exact ⟨⟨hS, hR, h6, hP⟩, Isg_c (g := g) (h := g) rfl rfl hsg, Itx_c (g := g) (h := g) rfl rfl rfl rfl htx, Iru_c (g := g) (h := g) (r := r) (by omega) hR (fun _ _ _ => rfl) (fun _ _ _ => rfl) rfl rfl rfl rfl rfl rfl rfl rfl hru, Iwd_c (g := g) (h := g) (by omega) rfl rfl rfl rfl rfl rfl hwd, Inw_c (g := g) (h := g) rfl rfl rfl rfl (fun _ _ _ => rfl) hnw, Ist_c (g := g) (h := g) (r := r) hR rfl rfl (fun _ _ _ => rfl) (fun _ _ _ => rfl) rfl rfl rfl rfl (fun _ _ => rfl) (fun _ _ => rfl) (fun _ _ => rfl) rfl rfl rfl hst, Ish_c (g := g) (h := g) rfl rfl rfl rfl rfl hsh, rfl⟩
                     · subst hh; rfl
                     · subst hh; rfl)
            · refine o_aload_n (n := 36) rfl rfl rfl ?_
              refine o_iconst (n := 37) rfl rfl ?_
              refine o_invi (n := 40) rfl rfl rfl rfl rfl rfl rfl rfl rfl rfl (c8_finds _ (by omega) (by omega)) ?_
              refine o_iret rfl rfl ?_
              first
                | (exfalso; omega; done)
                | (refine ⟨rfl, ?_, ?_, ?_⟩
                   · subst hh; exact ⟨⟨hS, hR, h6, hP⟩, Isg_c (g := g) (h := g) rfl rfl hsg, Itx_c (g := g) (h := g) rfl rfl rfl rfl htx, Iru_c (g := g) (h := g) (r := r) (by omega) hR (fun _ _ _ => rfl) (fun _ _ _ => rfl) rfl rfl rfl rfl rfl rfl rfl rfl hru, Iwd_c (g := g) (h := g) (by omega) rfl rfl rfl rfl rfl rfl hwd, Inw_c (g := g) (h := g) rfl rfl rfl rfl (fun _ _ _ => rfl) hnw, Ist_c (g := g) (h := g) (r := r) hR rfl rfl (fun _ _ _ => rfl) (fun _ _ _ => rfl) rfl rfl rfl rfl (fun _ _ => rfl) (fun _ _ => rfl) (fun _ _ => rfl) rfl rfl rfl hst, Ish_c (g := g) (h := g) rfl rfl rfl rfl rfl hsh, rfl⟩
                   · subst hh; rfl
                   · subst hh; rfl)
                | (refine ⟨congrArg (fun z => some (vI z)) ?_, ?_, ?_, ?_⟩
                   · omega
                   · subst hh; exact ⟨⟨hS, hR, h6, hP⟩, Isg_c (g := g) (h := g) rfl rfl hsg, Itx_c (g := g) (h := g) rfl rfl rfl rfl htx, Iru_c (g := g) (h := g) (r := r) (by omega) hR (fun _ _ _ => rfl) (fun _ _ _ => rfl) rfl rfl rfl rfl rfl rfl rfl rfl hru, Iwd_c (g := g) (h := g) (by omega) rfl rfl rfl rfl rfl rfl hwd, Inw_c (g := g) (h := g) rfl rfl rfl rfl (fun _ _ _ => rfl) hnw, Ist_c (g := g) (h := g) (r := r) hR rfl rfl (fun _ _ _ => rfl) (fun _ _ _ => rfl) rfl rfl rfl rfl (fun _ _ => rfl) (fun _ _ => rfl) (fun _ _ => rfl) rfl rfl rfl hst, Ish_c (g := g) (h := g) rfl rfl rfl rfl rfl hsh, rfl⟩
                   · subst hh; rfl
                   · subst hh; rfl)
        · refine o_bipush (n := 16) rfl rfl ?_
          refine o_iret rfl rfl ?_
          first
            | (exfalso; omega; done)
            | (refine ⟨rfl, ?_, ?_, ?_⟩
               · subst hh; exact ⟨⟨hS, hR, h6, hP⟩, Isg_c (g := g) (h := g) rfl rfl hsg, Itx_c (g := g) (h := g) rfl rfl rfl rfl htx, Iru_c (g := g) (h := g) (r := r) (by omega) hR (fun _ _ _ => rfl) (fun _ _ _ => rfl) rfl rfl rfl rfl rfl rfl rfl rfl hru, Iwd_c (g := g) (h := g) (by omega) rfl rfl rfl rfl rfl rfl hwd, Inw_c (g := g) (h := g) rfl rfl rfl rfl (fun _ _ _ => rfl) hnw, Ist_c (g := g) (h := g) (r := r) hR rfl rfl (fun _ _ _ => rfl) (fun _ _ _ => rfl) rfl rfl rfl rfl (fun _ _ => rfl) (fun _ _ => rfl) (fun _ _ => rfl) rfl rfl rfl hst, Ish_c (g := g) (h := g) rfl rfl rfl rfl rfl hsh, Ila_c (g := g) (h := g) rfl rfl hla⟩
               · subst hh; rfl
               · subst hh; rfl)
            | (refine ⟨congrArg (fun z => some (vI z)) ?_, ?_, ?_, ?_⟩
               · omega
               · subst hh; exact ⟨⟨hS, hR, h6, hP⟩, Isg_c (g := g) (h := g) rfl rfl hsg, Itx_c (g := g) (h := g) rfl rfl rfl rfl htx, Iru_c (g := g) (h := g) (r := r) (by omega) hR (fun _ _ _ => rfl) (fun _ _ _ => rfl) rfl rfl rfl rfl rfl rfl rfl rfl hru, Iwd_c (g := g) (h := g) (by omega) rfl rfl rfl rfl rfl rfl hwd, Inw_c (g := g) (h := g) rfl rfl rfl rfl (fun _ _ _ => rfl) hnw, Ist_c (g := g) (h := g) (r := r) hR rfl rfl (fun _ _ _ => rfl) (fun _ _ _ => rfl) rfl rfl rfl rfl (fun _ _ => rfl) (fun _ _ => rfl) (fun _ _ => rfl) rfl rfl rfl hst, Ish_c (g := g) (h := g) rfl rfl rfl rfl rfl hsh, Ila_c (g := g) (h := g) rfl rfl hla⟩
               · subst hh; rfl
               · subst hh; rfl)
section WR
variable {g h r : GI} {a n : Int}
theorem l7_wr (hS : am_St r) (a0 : 0 ≤ a) (a1 : a < 4) (n1 : n ≤ 24) : ∀ (m : Nat) (k : Int) (g1 : GI), (0 ≤ k) → (k + m = n) → ((∀ k, k ≠ 11 → g1 k = g k) ∧ (∀ i x, i ≠ a → g1 11 i x = g 11 i x)) → (∀ x, g1 11 a x = cif (0 ≤ x ∧ x < k) (ct (g 3 a 0) (g 10 0 x)) (g 11 a x)) → Ou 78 51 [vR 7 0, vI a, vI n, vI k] [] g1 r (fun v g1 r1 => v = some (vI n) ∧ r1 = r ∧ (∀ k, k ≠ 11 → g1 k = g k) ∧ (∀ i x, i ≠ a → g1 11 i x = g 11 i x) ∧ ∀ x, g1 11 a x = cif (0 ≤ x ∧ x < n) (ct (g 3 a 0) (g 10 0 x)) (g 11 a x)) := by
  intro m
  induction m with
  | zero =>
    intro k g1 u0 u1 fr u2
    have al0 : am_al 10 0 = 24 := rfl
    refine o_iload_n (n := 52) rfl rfl rfl ?_
    refine o_iload_n (n := 53) rfl rfl rfl ?_
    refine o_icmp_ge (n := 56) (t := 81) rfl rfl rfl (fun h53 => ?_) (fun h53 => (by exfalso; omega))
    refine o_iload_n (n := 82) rfl rfl rfl ?_
    refine o_iret rfl rfl ?_
    have hk : k = n := by omega
    subst hk
    exact ⟨rfl, rfl, fr.1, fr.2, u2⟩
  | succ m ih =>
    intro k g1 u0 u1 fr u2
    have al0 : am_al 10 0 = 24 := rfl
    refine o_iload_n (n := 52) rfl rfl rfl ?_
    refine o_iload_n (n := 53) rfl rfl rfl ?_
    refine o_icmp_ge (n := 56) (t := 81) rfl rfl rfl (fun h53 => (by exfalso; omega)) (fun h53 => ?_)
    refine o_aload_n (n := 57) rfl rfl rfl ?_
    refine of_7_4 (n := 60) hS rfl rfl ?_
    refine o_iload_n (n := 61) rfl rfl rfl ?_
    refine o_shr (n := 62) hS rfl rfl (by omega) (by omega) ?_
    refine o_iload_n (n := 63) rfl rfl rfl ?_
    refine o_aload_n (n := 64) rfl rfl rfl ?_
    refine of_7_1 (n := 67) hS rfl rfl ?_
    refine of_1_0 (n := 70) hS rfl rfl (by omega) (by omega) ?_
    refine o_iload_n (n := 71) rfl rfl rfl ?_
    refine o_iald (n := 72) rfl rfl (ok_10 (by omega) (by omega)) rfl rfl (by omega) (by omega) ?_
    refine o_invv (n := 75) rfl rfl rfl rfl rfl rfl rfl rfl rfl (ok_3 (by omega) (by omega)) (c3_put hS _ _ _ (by omega) (by omega) (by omega) (by omega)) ?_
    refine o_iinc_3 (n := 78) rfl rfl rfl (by omega) ?_
    refine o_goto (t := 51) rfl rfl ?_
    refine ih (k + 1) _ (by omega) (by omega) ⟨fun q z => (gset_kf z).trans (fr.1 q z), fun i x z => (gset_i z).trans (fr.2 i x z)⟩ (fun x => ?_)
    by_cases e : x = k
    · rw [e, gset_at, cif_t (by omega), fr.1 3 (by decide), fr.1 10 (by decide)]
    · rw [gset_s e, u2 x]; exact cif_congr (by omega)
theorem l8_wr (hS : am_St r) (a0 : 0 ≤ a) (a1 : a < 4) (n1 : n ≤ 24) : ∀ (m : Nat) (k : Int) (g1 : GI), (0 ≤ k) → (k + m = n) → (∀ k, k ≠ 19 → g1 k = h k) → (∀ x, g1 19 0 x = cif (60 * a ≤ x ∧ x < 60 * a + k) (ct (h 17 0 a) (h 25 0 (x - 60 * a))) (h 19 0 x)) → Ou 185 41 [vR 8 0, vI a, vI n, vI k] [] g1 r (fun v g2 r2 => v = some (vI n) ∧ r2 = r ∧ (∀ k, k ≠ 19 → g2 k = h k) ∧ ∀ x, g2 19 0 x = cif (60 * a ≤ x ∧ x < 60 * a + n) (ct (h 17 0 a) (h 25 0 (x - 60 * a))) (h 19 0 x)) := by
  intro m
  induction m with
  | zero =>
    intro k g1 u0 u1 fr u2
    refine o_iload_n (n := 42) rfl rfl rfl ?_
    refine o_iload_n (n := 43) rfl rfl rfl ?_
    refine o_icmp_ge (n := 46) (t := 78) rfl rfl rfl (fun h43 => ?_) (fun h43 => (by exfalso; omega))
    refine o_iload_n (n := 79) rfl rfl rfl ?_
    refine o_iret rfl rfl ?_
    have hk : k = n := by omega
    subst hk
    exact ⟨rfl, rfl, fr, u2⟩
  | succ m ih =>
    intro k g1 u0 u1 fr u2
    refine o_iload_n (n := 42) rfl rfl rfl ?_
    refine o_iload_n (n := 43) rfl rfl rfl ?_
    refine o_icmp_ge (n := 46) (t := 78) rfl rfl rfl (fun h43 => (by exfalso; omega)) (fun h43 => ?_)
    refine o_aload_n (n := 47) rfl rfl rfl ?_
    refine of_8_2 (n := 50) hS rfl rfl ?_
    refine o_bipush (n := 52) rfl rfl ?_
    refine o_iload_n (n := 53) rfl rfl rfl ?_
    refine o_imul (n := 54) rfl rfl (by omega) ?_
    refine o_iload_n (n := 55) rfl rfl rfl ?_
    refine o_iadd (n := 56) rfl rfl (by omega) ?_
    refine o_aload_n (n := 57) rfl rfl rfl ?_
    refine of_8_0 (n := 60) hS rfl rfl ?_
    refine o_iload_n (n := 61) rfl rfl rfl ?_
    refine o_iald (n := 62) (L := 4) rfl rfl rfl rfl rfl (by omega) (by omega) ?_
    refine o_aload_n (n := 63) rfl rfl rfl ?_
    refine of_8_13 (n := 66) hS rfl rfl ?_
    refine o_iload_n (n := 67) rfl rfl rfl ?_
    refine o_iald (n := 68) (L := 24) rfl rfl rfl rfl rfl (by omega) (by omega) ?_
    refine o_invsi (n := 71) rfl rfl rfl rfl rfl rfl (c8_cut _ _) ?_
    refine o_iast (n := 72) (L := 240) rfl rfl rfl rfl rfl (by omega) (by omega) ?_
    refine o_iinc_3 (n := 75) rfl rfl rfl (by omega) ?_
    refine o_goto (t := 41) rfl rfl ?_
    refine ih (k + 1) _ (by omega) (by omega) (fun q z => (gset_kf z).trans (fr q z)) (fun x => ?_)
    by_cases e : x = 60 * a + k
    · rw [e, gset_at, cif_t (by omega), fr 17 (by decide), fr 25 (by decide), show 60 * a + k - 60 * a = k by omega]
    · rw [gset_s e, u2 x]; exact cif_congr (by omega)
end WR
