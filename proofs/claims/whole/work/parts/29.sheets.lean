/-! like answers of both: sheets. Written by wip/gen/gen29.py -/
section SHEETS
variable {g h : GI}
theorem Ish_lose {a : Int} (a0 : 0 ≤ a) (a1 : a < 4) (i : Ish g h) : Ish (gset g 3 a 0 (-1)) (gset h 17 0 a (-1)) := fun s s0 s1 => by
  have := i s s0 s1
  refine ⟨?_, ?_, this.2.2⟩
  · by_cases e : s = a
    · subst e; rw [gset_at, gset_at]; omega
    · rw [gset_i e, gset_s e]; exact this.1
  · rw [gset_s (by decide)]; exact this.2.1
theorem Ish_put {a j v : Int} (j0 : 0 ≤ j) (j1 : j < 60) (i : Ish g h) : Ish (gset g 11 a j v) (gset h 19 0 (60 * a + j) v) := fun s s0 s1 => by
  have := i s s0 s1
  refine ⟨this.1, this.2.1, fun k k0 k1 => ?_⟩
  have k1 : k < h 18 0 s := k1
  by_cases e : s = a ∧ k = j
  · rw [e.1, e.2, gset_at, gset_at]
  · have h2 := this.2.2 k k0 k1
    rw [gset_s (show 60 * s + k ≠ 60 * a + j by omega)]
    by_cases e1 : s = a
    · rw [gset_s (fun z => e ⟨e1, z⟩)]; exact h2
    · rw [gset_i e1]; exact h2
theorem lk_eq {s f i : Int} (s0 : 0 ≤ s) (s1 : s < 4) (q : Ish g h) : lk8 h s f i = lk3 g s f i := by
  have := q s s0 s1
  unfold lk8 lk3
  rw [this.1.1, this.2.1.1]
  by_cases c1 : h 17 0 s < 0
  · rw [cif_t c1, cif_t (by omega)]
  · rw [cif_f c1, cif_f (show ¬ h 17 0 s = -1 by omega)]
    by_cases c2 : h 17 0 s ≠ f
    · rw [cif_t c2, cif_t c2]
    · rw [cif_f c2, cif_f c2]
      by_cases c3 : 0 ≤ i ∧ i ≤ h 18 0 s - 1
      · rw [cif_t c3, cif_f (by omega)]
      · rw [cif_f c3, cif_t (by omega)]
theorem lk3_r {s f i : Int} : (0 ≤ lk3 g s f i ∧ lk3 g s f i ≤ 5) ∧ (lk3 g s f i = 0 → g 3 s 0 ≠ -1 ∧ g 3 s 0 = f ∧ 0 ≤ i ∧ i < g 3 s 1) := by
  unfold lk3
  by_cases c1 : g 3 s 0 = -1
  · rw [cif_t c1]; omega
  · rw [cif_f c1]
    by_cases c2 : g 3 s 0 ≠ f
    · rw [cif_t c2]; omega
    · rw [cif_f c2]
      by_cases c3 : i < 0 ∨ g 3 s 1 ≤ i
      · rw [cif_t c3]; omega
      · rw [cif_f c3]; omega
end SHEETS
theorem p_lose (a : Int) : Pr 74 115 [vI a] := by
  intro c g r hc0 hc1 hI
  have hI' := hI
  obtain ⟨⟨hS, hR, h6, hP⟩, hsg, htx, hru, hwd, hnw, hst, hsh, hla⟩ := hI'
  show Ou 74 0 [vR 7 0, vI a] [] g r _
  obtain ⟨sg1, sg2, sg3⟩ := hI.2.1
  obtain ⟨tx1, tx2, tx3, tx4⟩ := hI.2.2.1
  have ru0 : g 7 0 10 = g 8 0 8 := hI.2.2.2.1.1.1
  have ru1 := hI.2.2.2.1.2.1.1
  have wd0 : g 1 0 1 = g 8 0 14 := hI.2.2.2.2.1.1.1
  have wd1 := hI.2.2.2.2.1.2.1.1
  have wd2 := hI.2.2.2.2.1.2.2
  have nw0 : g 0 0 0 = g 27 0 8 := hI.2.2.2.2.2.1.1.1
  have nw1 : g 0 0 1 = g 28 0 8 := hI.2.2.2.2.2.1.1.2.1
  have nw2 := hI.2.2.2.2.2.1.2.1
  have nw3 := hI.2.2.2.2.2.1.2.2.1
  have st0 := hI.2.2.2.2.2.2.1.1
  have st1 := hI.2.2.2.2.2.2.1.2.1
  have st2 := hI.2.2.2.2.2.2.1.2.2.1
  have la0 : g 7 0 13 = g 8 0 4 := hI.2.2.2.2.2.2.2.2
  have sh_a : (0 ≤ a ∧ a < 4) → (g 3 a 0 = g 17 0 a ∧ -1 ≤ g 17 0 a ∧ g 17 0 a ≤ 2 ∧ g 3 a 1 = g 18 0 a ∧ 0 ≤ g 18 0 a ∧ g 18 0 a ≤ 60) := fun z => by
    have := hsh a z.1 z.2
    exact ⟨this.1.1, this.1.2.1, this.1.2.2, this.2.1.1, this.2.1.2.1, this.2.1.2.2⟩
  refine o_iload_n (n := 1) rfl rfl rfl ?_
  refine o_invsi (n := 4) rfl rfl rfl rfl rfl rfl (c7_isSheet _) ?_
  refine o_ifb_ne (n := 7) (t := 10) rfl rfl rfl (fun q4 => ?_) (fun q4 => ?_)
  · refine o_aload_n (n := 11) rfl rfl rfl ?_
    refine of_7_4 (n := 14) hS rfl rfl ?_
    refine o_iload_n (n := 15) rfl rfl rfl ?_
    refine o_shr (n := 16) hS rfl rfl (by omega) (by omega) ?_
    refine o_geti (n := 19) rfl rfl rfl (ok_3 (by omega) (by omega)) rfl ?_
    refine o_iconst (n := 20) rfl rfl ?_
    refine o_icmp_ne (n := 23) (t := 29) rfl rfl rfl (fun q20 => ?_) (fun q20 => ?_)
    · refine o_aload_n (n := 30) rfl rfl rfl ?_
      refine of_7_4 (n := 33) hS rfl rfl ?_
      refine o_iload_n (n := 34) rfl rfl rfl ?_
      refine o_shr (n := 35) hS rfl rfl (by omega) (by omega) ?_
      refine o_iconst (n := 36) rfl rfl ?_
      refine o_puti (n := 39) rfl rfl rfl (ok_3 (by omega) (by omega)) rfl ?_
      refine o_aload_n (n := 40) rfl rfl rfl ?_
      refine of_7_4 (n := 43) hS rfl rfl ?_
      refine o_iload_n (n := 44) rfl rfl rfl ?_
      refine o_shr (n := 45) hS rfl rfl (by omega) (by omega) ?_
      refine o_geti (n := 48) rfl rfl rfl (ok_3 (by omega) (by omega)) rfl ?_
      try first | rw [gset_at] | rw [gset_k rfl] | rw [gset_s (by decide)]
      try first | rw [gset_at] | rw [gset_k rfl] | rw [gset_s (by decide)]
      refine o_iret rfl rfl ?_
      refine q8_of (g := g) (r := r) (fun k hk => by first | rfl | exact gset_kf (isM_ne hk (by decide)) | exact (gset_kf (isM_ne hk (by decide))).trans (gset_kf (isM_ne hk (by decide))) | exact (gset_kf (isM_ne hk (by decide))).trans ((gset_kf (isM_ne hk (by decide))).trans (gset_kf (isM_ne hk (by decide)))) | exact (gset_kf (isM_ne hk (by decide))).trans ((gset_kf (isM_ne hk (by decide))).trans ((gset_kf (isM_ne hk (by decide))).trans (gset_kf (isM_ne hk (by decide)))))) hI (fun h hh hJ => ?_)
      show Ou 115 0 [vR 8 0, vI a] [] h _ _
      obtain ⟨jsg1, jsg2, jsg3⟩ := hJ.2.1
      obtain ⟨jtx1, jtx2, jtx3, jtx4⟩ := hJ.2.2.1
      have jru0 : g 7 0 10 = h 8 0 8 := hJ.2.2.2.1.1.1
      have jru1 := hJ.2.2.2.1.2.1.1
      have jwd0 : g 1 0 1 = h 8 0 14 := hJ.2.2.2.2.1.1.1
      have jwd1 := hJ.2.2.2.2.1.2.1.1
      have jwd2 := hJ.2.2.2.2.1.2.2
      have jnw0 : g 0 0 0 = h 27 0 8 := hJ.2.2.2.2.2.1.1.1
      have jnw1 : g 0 0 1 = h 28 0 8 := hJ.2.2.2.2.2.1.1.2.1
      have jnw2 := hJ.2.2.2.2.2.1.2.1
      have jnw3 := hJ.2.2.2.2.2.1.2.2.1
      have jst0 := hJ.2.2.2.2.2.2.1.1
      have jst1 := hJ.2.2.2.2.2.2.1.2.1
      have jst2 := hJ.2.2.2.2.2.2.1.2.2.1
      have jla0 : g 7 0 13 = h 8 0 4 := hJ.2.2.2.2.2.2.2.2
      have jsh_a : (0 ≤ a ∧ a < 4) → (g 3 a 0 = h 17 0 a ∧ -1 ≤ h 17 0 a ∧ h 17 0 a ≤ 2 ∧ g 3 a 1 = h 18 0 a ∧ 0 ≤ h 18 0 a ∧ h 18 0 a ≤ 60) := fun z => by
        have := hJ.2.2.2.2.2.2.2.1 a z.1 z.2
        exact ⟨this.1.1, this.1.2.1, this.1.2.2, this.2.1.1, this.2.1.2.1, this.2.1.2.2⟩
      refine o_iload_n (n := 1) rfl rfl rfl ?_
      refine o_invsi (n := 4) rfl rfl rfl rfl rfl rfl (c8_isSheet _) ?_
      refine o_ifb_ne (n := 7) (t := 10) rfl rfl rfl (fun k4 => ?_) (fun k4 => ?_)
      · refine o_aload_n (n := 11) rfl rfl rfl ?_
        refine of_8_0 (n := 14) hS rfl rfl ?_
        refine o_iload_n (n := 15) rfl rfl rfl ?_
        refine o_iald (n := 16) (L := 4) rfl rfl rfl rfl rfl (by omega) (by omega) ?_
        refine o_if_ge (n := 19) (t := 25) rfl rfl rfl (fun k16 => ?_) (fun k16 => ?_)
        · refine o_aload_n (n := 26) rfl rfl rfl ?_
          refine of_8_0 (n := 29) hS rfl rfl ?_
          refine o_iload_n (n := 30) rfl rfl rfl ?_
          refine o_iconst (n := 31) rfl rfl ?_
          refine o_iast (n := 32) (L := 4) rfl rfl rfl rfl rfl (by omega) (by omega) ?_
          refine o_aload_n (n := 33) rfl rfl rfl ?_
          refine of_8_1 (n := 36) hS rfl rfl ?_
          refine o_iload_n (n := 37) rfl rfl rfl ?_
          refine o_iald (n := 38) (L := 4) rfl rfl rfl rfl rfl (by omega) (by omega) ?_
          try first | rw [gset_at] | rw [gset_k rfl] | rw [gset_s (by decide)]
          try first | rw [gset_at] | rw [gset_k rfl] | rw [gset_s (by decide)]
          refine o_iret rfl rfl ?_
          first
            | (exfalso; omega; done)
            | (refine ⟨rfl, ?_, ?_, ?_⟩
               · subst hh; exact ⟨⟨hS, hR, h6, hP⟩, Isg_c (g := g) (h := g) rfl rfl hsg, Itx_c (g := g) (h := g) rfl rfl rfl rfl htx, Iru_c (g := g) (h := g) (r := r) (by omega) hR (fun _ _ _ => rfl) (fun _ _ _ => rfl) rfl rfl rfl rfl rfl rfl rfl rfl hru, Iwd_c (g := g) (h := g) (by omega) rfl rfl rfl rfl rfl rfl hwd, Inw_c (g := g) (h := g) rfl rfl rfl rfl (fun _ _ _ => rfl) hnw, Ist_c (g := g) (h := g) (r := r) hR rfl rfl (fun _ _ _ => rfl) (fun _ _ _ => rfl) rfl rfl rfl rfl (fun _ _ => rfl) (fun _ _ => rfl) (fun _ _ => rfl) rfl rfl rfl hst, Ish_c (g := gset g 3 a 0 (-1)) (h := gset g 17 0 a (-1)) rfl rfl rfl rfl rfl (Ish_lose (by omega) (by omega) hsh), Ila_c (g := g) (h := g) rfl rfl hla⟩
               · subst hh; rfl
               · subst hh; rfl)
            | (refine ⟨congrArg (fun z => some (vI z)) ?_, ?_, ?_, ?_⟩
               · omega
               · subst hh; exact ⟨⟨hS, hR, h6, hP⟩, Isg_c (g := g) (h := g) rfl rfl hsg, Itx_c (g := g) (h := g) rfl rfl rfl rfl htx, Iru_c (g := g) (h := g) (r := r) (by omega) hR (fun _ _ _ => rfl) (fun _ _ _ => rfl) rfl rfl rfl rfl rfl rfl rfl rfl hru, Iwd_c (g := g) (h := g) (by omega) rfl rfl rfl rfl rfl rfl hwd, Inw_c (g := g) (h := g) rfl rfl rfl rfl (fun _ _ _ => rfl) hnw, Ist_c (g := g) (h := g) (r := r) hR rfl rfl (fun _ _ _ => rfl) (fun _ _ _ => rfl) rfl rfl rfl rfl (fun _ _ => rfl) (fun _ _ => rfl) (fun _ _ => rfl) rfl rfl rfl hst, Ish_c (g := gset g 3 a 0 (-1)) (h := gset g 17 0 a (-1)) rfl rfl rfl rfl rfl (Ish_lose (by omega) (by omega) hsh), Ila_c (g := g) (h := g) rfl rfl hla⟩
               · subst hh; rfl
               · subst hh; rfl)
        · refine o_aload_n (n := 20) rfl rfl rfl ?_
          refine o_iconst (n := 21) rfl rfl ?_
          refine o_invi (n := 24) rfl rfl rfl rfl rfl rfl rfl rfl rfl rfl (c8_finds _ (by omega) (by omega)) ?_
          refine o_iret rfl rfl ?_
          first
            | (exfalso; omega; done)
            | (refine ⟨rfl, ?_, ?_, ?_⟩
               · subst hh; exact ⟨⟨hS, hR, h6, hP⟩, Isg_c (g := g) (h := g) rfl rfl hsg, Itx_c (g := g) (h := g) rfl rfl rfl rfl htx, Iru_c (g := g) (h := g) (r := r) (by omega) hR (fun _ _ _ => rfl) (fun _ _ _ => rfl) rfl rfl rfl rfl rfl rfl rfl rfl hru, Iwd_c (g := g) (h := g) (by omega) rfl rfl rfl rfl rfl rfl hwd, Inw_c (g := g) (h := g) rfl rfl rfl rfl (fun _ _ _ => rfl) hnw, Ist_c (g := g) (h := g) (r := r) hR rfl rfl (fun _ _ _ => rfl) (fun _ _ _ => rfl) rfl rfl rfl rfl (fun _ _ => rfl) (fun _ _ => rfl) (fun _ _ => rfl) rfl rfl rfl hst, Ish_c (g := g) (h := g) rfl rfl rfl rfl rfl hsh, rfl⟩
               · subst hh; rfl
               · subst hh; rfl)
            | (refine ⟨congrArg (fun z => some (vI z)) ?_, ?_, ?_, ?_⟩
               · omega
               · subst hh; exact ⟨⟨hS, hR, h6, hP⟩, Isg_c (g := g) (h := g) rfl rfl hsg, Itx_c (g := g) (h := g) rfl rfl rfl rfl htx, Iru_c (g := g) (h := g) (r := r) (by omega) hR (fun _ _ _ => rfl) (fun _ _ _ => rfl) rfl rfl rfl rfl rfl rfl rfl rfl hru, Iwd_c (g := g) (h := g) (by omega) rfl rfl rfl rfl rfl rfl hwd, Inw_c (g := g) (h := g) rfl rfl rfl rfl (fun _ _ _ => rfl) hnw, Ist_c (g := g) (h := g) (r := r) hR rfl rfl (fun _ _ _ => rfl) (fun _ _ _ => rfl) rfl rfl rfl rfl (fun _ _ => rfl) (fun _ _ => rfl) (fun _ _ => rfl) rfl rfl rfl hst, Ish_c (g := g) (h := g) rfl rfl rfl rfl rfl hsh, rfl⟩
               · subst hh; rfl
               · subst hh; rfl)
      · refine o_bipush (n := 9) rfl rfl ?_
        refine o_iret rfl rfl ?_
        first
          | (exfalso; omega; done)
          | (refine ⟨rfl, ?_, ?_, ?_⟩
             · subst hh; exact ⟨⟨hS, hR, h6, hP⟩, Isg_c (g := g) (h := g) rfl rfl hsg, Itx_c (g := g) (h := g) rfl rfl rfl rfl htx, Iru_c (g := g) (h := g) (r := r) (by omega) hR (fun _ _ _ => rfl) (fun _ _ _ => rfl) rfl rfl rfl rfl rfl rfl rfl rfl hru, Iwd_c (g := g) (h := g) (by omega) rfl rfl rfl rfl rfl rfl hwd, Inw_c (g := g) (h := g) rfl rfl rfl rfl (fun _ _ _ => rfl) hnw, Ist_c (g := g) (h := g) (r := r) hR rfl rfl (fun _ _ _ => rfl) (fun _ _ _ => rfl) rfl rfl rfl rfl (fun _ _ => rfl) (fun _ _ => rfl) (fun _ _ => rfl) rfl rfl rfl hst, Ish_c (g := g) (h := g) rfl rfl rfl rfl rfl hsh, Ila_c (g := g) (h := g) rfl rfl hla⟩
             · subst hh; rfl
             · subst hh; rfl)
          | (refine ⟨congrArg (fun z => some (vI z)) ?_, ?_, ?_, ?_⟩
             · omega
             · subst hh; exact ⟨⟨hS, hR, h6, hP⟩, Isg_c (g := g) (h := g) rfl rfl hsg, Itx_c (g := g) (h := g) rfl rfl rfl rfl htx, Iru_c (g := g) (h := g) (r := r) (by omega) hR (fun _ _ _ => rfl) (fun _ _ _ => rfl) rfl rfl rfl rfl rfl rfl rfl rfl hru, Iwd_c (g := g) (h := g) (by omega) rfl rfl rfl rfl rfl rfl hwd, Inw_c (g := g) (h := g) rfl rfl rfl rfl (fun _ _ _ => rfl) hnw, Ist_c (g := g) (h := g) (r := r) hR rfl rfl (fun _ _ _ => rfl) (fun _ _ _ => rfl) rfl rfl rfl rfl (fun _ _ => rfl) (fun _ _ => rfl) (fun _ _ => rfl) rfl rfl rfl hst, Ish_c (g := g) (h := g) rfl rfl rfl rfl rfl hsh, Ila_c (g := g) (h := g) rfl rfl hla⟩
             · subst hh; rfl
             · subst hh; rfl)
    · refine o_aload_n (n := 24) rfl rfl rfl ?_
      refine o_iconst (n := 25) rfl rfl ?_
      refine o_invi (n := 28) rfl rfl rfl rfl rfl rfl rfl rfl rfl rfl (c7_found _ (by omega) (by omega)) ?_
      refine o_iret rfl rfl ?_
      refine q8_of (g := g) (r := r) (fun k hk => by first | rfl | exact gset_kf (isM_ne hk (by decide)) | exact (gset_kf (isM_ne hk (by decide))).trans (gset_kf (isM_ne hk (by decide))) | exact (gset_kf (isM_ne hk (by decide))).trans ((gset_kf (isM_ne hk (by decide))).trans (gset_kf (isM_ne hk (by decide)))) | exact (gset_kf (isM_ne hk (by decide))).trans ((gset_kf (isM_ne hk (by decide))).trans ((gset_kf (isM_ne hk (by decide))).trans (gset_kf (isM_ne hk (by decide)))))) hI (fun h hh hJ => ?_)
      show Ou 115 0 [vR 8 0, vI a] [] h _ _
      obtain ⟨jsg1, jsg2, jsg3⟩ := hJ.2.1
      obtain ⟨jtx1, jtx2, jtx3, jtx4⟩ := hJ.2.2.1
      have jru0 : g 7 0 10 = h 8 0 8 := hJ.2.2.2.1.1.1
      have jru1 := hJ.2.2.2.1.2.1.1
      have jwd0 : g 1 0 1 = h 8 0 14 := hJ.2.2.2.2.1.1.1
      have jwd1 := hJ.2.2.2.2.1.2.1.1
      have jwd2 := hJ.2.2.2.2.1.2.2
      have jnw0 : g 0 0 0 = h 27 0 8 := hJ.2.2.2.2.2.1.1.1
      have jnw1 : g 0 0 1 = h 28 0 8 := hJ.2.2.2.2.2.1.1.2.1
      have jnw2 := hJ.2.2.2.2.2.1.2.1
      have jnw3 := hJ.2.2.2.2.2.1.2.2.1
      have jst0 := hJ.2.2.2.2.2.2.1.1
      have jst1 := hJ.2.2.2.2.2.2.1.2.1
      have jst2 := hJ.2.2.2.2.2.2.1.2.2.1
      have jla0 : g 7 0 13 = h 8 0 4 := hJ.2.2.2.2.2.2.2.2
      have jsh_a : (0 ≤ a ∧ a < 4) → (g 3 a 0 = h 17 0 a ∧ -1 ≤ h 17 0 a ∧ h 17 0 a ≤ 2 ∧ g 3 a 1 = h 18 0 a ∧ 0 ≤ h 18 0 a ∧ h 18 0 a ≤ 60) := fun z => by
        have := hJ.2.2.2.2.2.2.2.1 a z.1 z.2
        exact ⟨this.1.1, this.1.2.1, this.1.2.2, this.2.1.1, this.2.1.2.1, this.2.1.2.2⟩
      refine o_iload_n (n := 1) rfl rfl rfl ?_
      refine o_invsi (n := 4) rfl rfl rfl rfl rfl rfl (c8_isSheet _) ?_
      refine o_ifb_ne (n := 7) (t := 10) rfl rfl rfl (fun k4 => ?_) (fun k4 => ?_)
      · refine o_aload_n (n := 11) rfl rfl rfl ?_
        refine of_8_0 (n := 14) hS rfl rfl ?_
        refine o_iload_n (n := 15) rfl rfl rfl ?_
        refine o_iald (n := 16) (L := 4) rfl rfl rfl rfl rfl (by omega) (by omega) ?_
        refine o_if_ge (n := 19) (t := 25) rfl rfl rfl (fun k16 => ?_) (fun k16 => ?_)
        · refine o_aload_n (n := 26) rfl rfl rfl ?_
          refine of_8_0 (n := 29) hS rfl rfl ?_
          refine o_iload_n (n := 30) rfl rfl rfl ?_
          refine o_iconst (n := 31) rfl rfl ?_
          refine o_iast (n := 32) (L := 4) rfl rfl rfl rfl rfl (by omega) (by omega) ?_
          refine o_aload_n (n := 33) rfl rfl rfl ?_
          refine of_8_1 (n := 36) hS rfl rfl ?_
          refine o_iload_n (n := 37) rfl rfl rfl ?_
          refine o_iald (n := 38) (L := 4) rfl rfl rfl rfl rfl (by omega) (by omega) ?_
          try first | rw [gset_at] | rw [gset_k rfl] | rw [gset_s (by decide)]
          try first | rw [gset_at] | rw [gset_k rfl] | rw [gset_s (by decide)]
          refine o_iret rfl rfl ?_
          first
            | (exfalso; omega; done)
            | (refine ⟨rfl, ?_, ?_, ?_⟩
               · subst hh; exact ⟨⟨hS, hR, h6, hP⟩, Isg_c (g := g) (h := g) rfl rfl hsg, Itx_c (g := g) (h := g) rfl rfl rfl rfl htx, Iru_c (g := g) (h := g) (r := r) (by omega) hR (fun _ _ _ => rfl) (fun _ _ _ => rfl) rfl rfl rfl rfl rfl rfl rfl rfl hru, Iwd_c (g := g) (h := g) (by omega) rfl rfl rfl rfl rfl rfl hwd, Inw_c (g := g) (h := g) rfl rfl rfl rfl (fun _ _ _ => rfl) hnw, Ist_c (g := g) (h := g) (r := r) hR rfl rfl (fun _ _ _ => rfl) (fun _ _ _ => rfl) rfl rfl rfl rfl (fun _ _ => rfl) (fun _ _ => rfl) (fun _ _ => rfl) rfl rfl rfl hst, Ish_c (g := gset g 3 a 0 (-1)) (h := gset g 17 0 a (-1)) rfl rfl rfl rfl rfl (Ish_lose (by omega) (by omega) hsh), Ila_c (g := g) (h := g) rfl rfl hla⟩
               · subst hh; rfl
               · subst hh; rfl)
            | (refine ⟨congrArg (fun z => some (vI z)) ?_, ?_, ?_, ?_⟩
               · omega
               · subst hh; exact ⟨⟨hS, hR, h6, hP⟩, Isg_c (g := g) (h := g) rfl rfl hsg, Itx_c (g := g) (h := g) rfl rfl rfl rfl htx, Iru_c (g := g) (h := g) (r := r) (by omega) hR (fun _ _ _ => rfl) (fun _ _ _ => rfl) rfl rfl rfl rfl rfl rfl rfl rfl hru, Iwd_c (g := g) (h := g) (by omega) rfl rfl rfl rfl rfl rfl hwd, Inw_c (g := g) (h := g) rfl rfl rfl rfl (fun _ _ _ => rfl) hnw, Ist_c (g := g) (h := g) (r := r) hR rfl rfl (fun _ _ _ => rfl) (fun _ _ _ => rfl) rfl rfl rfl rfl (fun _ _ => rfl) (fun _ _ => rfl) (fun _ _ => rfl) rfl rfl rfl hst, Ish_c (g := gset g 3 a 0 (-1)) (h := gset g 17 0 a (-1)) rfl rfl rfl rfl rfl (Ish_lose (by omega) (by omega) hsh), Ila_c (g := g) (h := g) rfl rfl hla⟩
               · subst hh; rfl
               · subst hh; rfl)
        · refine o_aload_n (n := 20) rfl rfl rfl ?_
          refine o_iconst (n := 21) rfl rfl ?_
          refine o_invi (n := 24) rfl rfl rfl rfl rfl rfl rfl rfl rfl rfl (c8_finds _ (by omega) (by omega)) ?_
          refine o_iret rfl rfl ?_
          first
            | (exfalso; omega; done)
            | (refine ⟨rfl, ?_, ?_, ?_⟩
               · subst hh; exact ⟨⟨hS, hR, h6, hP⟩, Isg_c (g := g) (h := g) rfl rfl hsg, Itx_c (g := g) (h := g) rfl rfl rfl rfl htx, Iru_c (g := g) (h := g) (r := r) (by omega) hR (fun _ _ _ => rfl) (fun _ _ _ => rfl) rfl rfl rfl rfl rfl rfl rfl rfl hru, Iwd_c (g := g) (h := g) (by omega) rfl rfl rfl rfl rfl rfl hwd, Inw_c (g := g) (h := g) rfl rfl rfl rfl (fun _ _ _ => rfl) hnw, Ist_c (g := g) (h := g) (r := r) hR rfl rfl (fun _ _ _ => rfl) (fun _ _ _ => rfl) rfl rfl rfl rfl (fun _ _ => rfl) (fun _ _ => rfl) (fun _ _ => rfl) rfl rfl rfl hst, Ish_c (g := g) (h := g) rfl rfl rfl rfl rfl hsh, rfl⟩
               · subst hh; rfl
               · subst hh; rfl)
            | (refine ⟨congrArg (fun z => some (vI z)) ?_, ?_, ?_, ?_⟩
               · omega
               · subst hh; exact ⟨⟨hS, hR, h6, hP⟩, Isg_c (g := g) (h := g) rfl rfl hsg, Itx_c (g := g) (h := g) rfl rfl rfl rfl htx, Iru_c (g := g) (h := g) (r := r) (by omega) hR (fun _ _ _ => rfl) (fun _ _ _ => rfl) rfl rfl rfl rfl rfl rfl rfl rfl hru, Iwd_c (g := g) (h := g) (by omega) rfl rfl rfl rfl rfl rfl hwd, Inw_c (g := g) (h := g) rfl rfl rfl rfl (fun _ _ _ => rfl) hnw, Ist_c (g := g) (h := g) (r := r) hR rfl rfl (fun _ _ _ => rfl) (fun _ _ _ => rfl) rfl rfl rfl rfl (fun _ _ => rfl) (fun _ _ => rfl) (fun _ _ => rfl) rfl rfl rfl hst, Ish_c (g := g) (h := g) rfl rfl rfl rfl rfl hsh, rfl⟩
               · subst hh; rfl
               · subst hh; rfl)
      · refine o_bipush (n := 9) rfl rfl ?_
        refine o_iret rfl rfl ?_
        first
          | (exfalso; omega; done)
          | (refine ⟨rfl, ?_, ?_, ?_⟩
             · subst hh; exact ⟨⟨hS, hR, h6, hP⟩, Isg_c (g := g) (h := g) rfl rfl hsg, Itx_c (g := g) (h := g) rfl rfl rfl rfl htx, Iru_c (g := g) (h := g) (r := r) (by omega) hR (fun _ _ _ => rfl) (fun _ _ _ => rfl) rfl rfl rfl rfl rfl rfl rfl rfl hru, Iwd_c (g := g) (h := g) (by omega) rfl rfl rfl rfl rfl rfl hwd, Inw_c (g := g) (h := g) rfl rfl rfl rfl (fun _ _ _ => rfl) hnw, Ist_c (g := g) (h := g) (r := r) hR rfl rfl (fun _ _ _ => rfl) (fun _ _ _ => rfl) rfl rfl rfl rfl (fun _ _ => rfl) (fun _ _ => rfl) (fun _ _ => rfl) rfl rfl rfl hst, Ish_c (g := g) (h := g) rfl rfl rfl rfl rfl hsh, Ila_c (g := g) (h := g) rfl rfl hla⟩
             · subst hh; rfl
             · subst hh; rfl)
          | (refine ⟨congrArg (fun z => some (vI z)) ?_, ?_, ?_, ?_⟩
             · omega
             · subst hh; exact ⟨⟨hS, hR, h6, hP⟩, Isg_c (g := g) (h := g) rfl rfl hsg, Itx_c (g := g) (h := g) rfl rfl rfl rfl htx, Iru_c (g := g) (h := g) (r := r) (by omega) hR (fun _ _ _ => rfl) (fun _ _ _ => rfl) rfl rfl rfl rfl rfl rfl rfl rfl hru, Iwd_c (g := g) (h := g) (by omega) rfl rfl rfl rfl rfl rfl hwd, Inw_c (g := g) (h := g) rfl rfl rfl rfl (fun _ _ _ => rfl) hnw, Ist_c (g := g) (h := g) (r := r) hR rfl rfl (fun _ _ _ => rfl) (fun _ _ _ => rfl) rfl rfl rfl rfl (fun _ _ => rfl) (fun _ _ => rfl) (fun _ _ => rfl) rfl rfl rfl hst, Ish_c (g := g) (h := g) rfl rfl rfl rfl rfl hsh, Ila_c (g := g) (h := g) rfl rfl hla⟩
             · subst hh; rfl
             · subst hh; rfl)
  · refine o_bipush (n := 9) rfl rfl ?_
    refine o_iret rfl rfl ?_
    refine q8_of (g := g) (r := r) (fun k hk => by first | rfl | exact gset_kf (isM_ne hk (by decide)) | exact (gset_kf (isM_ne hk (by decide))).trans (gset_kf (isM_ne hk (by decide))) | exact (gset_kf (isM_ne hk (by decide))).trans ((gset_kf (isM_ne hk (by decide))).trans (gset_kf (isM_ne hk (by decide)))) | exact (gset_kf (isM_ne hk (by decide))).trans ((gset_kf (isM_ne hk (by decide))).trans ((gset_kf (isM_ne hk (by decide))).trans (gset_kf (isM_ne hk (by decide)))))) hI (fun h hh hJ => ?_)
    show Ou 115 0 [vR 8 0, vI a] [] h _ _
    obtain ⟨jsg1, jsg2, jsg3⟩ := hJ.2.1
    obtain ⟨jtx1, jtx2, jtx3, jtx4⟩ := hJ.2.2.1
    have jru0 : g 7 0 10 = h 8 0 8 := hJ.2.2.2.1.1.1
    have jru1 := hJ.2.2.2.1.2.1.1
    have jwd0 : g 1 0 1 = h 8 0 14 := hJ.2.2.2.2.1.1.1
    have jwd1 := hJ.2.2.2.2.1.2.1.1
    have jwd2 := hJ.2.2.2.2.1.2.2
    have jnw0 : g 0 0 0 = h 27 0 8 := hJ.2.2.2.2.2.1.1.1
    have jnw1 : g 0 0 1 = h 28 0 8 := hJ.2.2.2.2.2.1.1.2.1
    have jnw2 := hJ.2.2.2.2.2.1.2.1
    have jnw3 := hJ.2.2.2.2.2.1.2.2.1
    have jst0 := hJ.2.2.2.2.2.2.1.1
    have jst1 := hJ.2.2.2.2.2.2.1.2.1
    have jst2 := hJ.2.2.2.2.2.2.1.2.2.1
    have jla0 : g 7 0 13 = h 8 0 4 := hJ.2.2.2.2.2.2.2.2
    have jsh_a : (0 ≤ a ∧ a < 4) → (g 3 a 0 = h 17 0 a ∧ -1 ≤ h 17 0 a ∧ h 17 0 a ≤ 2 ∧ g 3 a 1 = h 18 0 a ∧ 0 ≤ h 18 0 a ∧ h 18 0 a ≤ 60) := fun z => by
      have := hJ.2.2.2.2.2.2.2.1 a z.1 z.2
      exact ⟨this.1.1, this.1.2.1, this.1.2.2, this.2.1.1, this.2.1.2.1, this.2.1.2.2⟩
    refine o_iload_n (n := 1) rfl rfl rfl ?_
    refine o_invsi (n := 4) rfl rfl rfl rfl rfl rfl (c8_isSheet _) ?_
    refine o_ifb_ne (n := 7) (t := 10) rfl rfl rfl (fun k4 => ?_) (fun k4 => ?_)
    · refine o_aload_n (n := 11) rfl rfl rfl ?_
      refine of_8_0 (n := 14) hS rfl rfl ?_
      refine o_iload_n (n := 15) rfl rfl rfl ?_
      refine o_iald (n := 16) (L := 4) rfl rfl rfl rfl rfl (by omega) (by omega) ?_
      refine o_if_ge (n := 19) (t := 25) rfl rfl rfl (fun k16 => ?_) (fun k16 => ?_)
      · refine o_aload_n (n := 26) rfl rfl rfl ?_
        refine of_8_0 (n := 29) hS rfl rfl ?_
        refine o_iload_n (n := 30) rfl rfl rfl ?_
        refine o_iconst (n := 31) rfl rfl ?_
        refine o_iast (n := 32) (L := 4) rfl rfl rfl rfl rfl (by omega) (by omega) ?_
        refine o_aload_n (n := 33) rfl rfl rfl ?_
        refine of_8_1 (n := 36) hS rfl rfl ?_
        refine o_iload_n (n := 37) rfl rfl rfl ?_
        refine o_iald (n := 38) (L := 4) rfl rfl rfl rfl rfl (by omega) (by omega) ?_
        try first | rw [gset_at] | rw [gset_k rfl] | rw [gset_s (by decide)]
        try first | rw [gset_at] | rw [gset_k rfl] | rw [gset_s (by decide)]
        refine o_iret rfl rfl ?_
        first
          | (exfalso; omega; done)
          | (refine ⟨rfl, ?_, ?_, ?_⟩
             · subst hh; exact ⟨⟨hS, hR, h6, hP⟩, Isg_c (g := g) (h := g) rfl rfl hsg, Itx_c (g := g) (h := g) rfl rfl rfl rfl htx, Iru_c (g := g) (h := g) (r := r) (by omega) hR (fun _ _ _ => rfl) (fun _ _ _ => rfl) rfl rfl rfl rfl rfl rfl rfl rfl hru, Iwd_c (g := g) (h := g) (by omega) rfl rfl rfl rfl rfl rfl hwd, Inw_c (g := g) (h := g) rfl rfl rfl rfl (fun _ _ _ => rfl) hnw, Ist_c (g := g) (h := g) (r := r) hR rfl rfl (fun _ _ _ => rfl) (fun _ _ _ => rfl) rfl rfl rfl rfl (fun _ _ => rfl) (fun _ _ => rfl) (fun _ _ => rfl) rfl rfl rfl hst, Ish_c (g := gset g 3 a 0 (-1)) (h := gset g 17 0 a (-1)) rfl rfl rfl rfl rfl (Ish_lose (by omega) (by omega) hsh), Ila_c (g := g) (h := g) rfl rfl hla⟩
             · subst hh; rfl
             · subst hh; rfl)
          | (refine ⟨congrArg (fun z => some (vI z)) ?_, ?_, ?_, ?_⟩
             · omega
             · subst hh; exact ⟨⟨hS, hR, h6, hP⟩, Isg_c (g := g) (h := g) rfl rfl hsg, Itx_c (g := g) (h := g) rfl rfl rfl rfl htx, Iru_c (g := g) (h := g) (r := r) (by omega) hR (fun _ _ _ => rfl) (fun _ _ _ => rfl) rfl rfl rfl rfl rfl rfl rfl rfl hru, Iwd_c (g := g) (h := g) (by omega) rfl rfl rfl rfl rfl rfl hwd, Inw_c (g := g) (h := g) rfl rfl rfl rfl (fun _ _ _ => rfl) hnw, Ist_c (g := g) (h := g) (r := r) hR rfl rfl (fun _ _ _ => rfl) (fun _ _ _ => rfl) rfl rfl rfl rfl (fun _ _ => rfl) (fun _ _ => rfl) (fun _ _ => rfl) rfl rfl rfl hst, Ish_c (g := gset g 3 a 0 (-1)) (h := gset g 17 0 a (-1)) rfl rfl rfl rfl rfl (Ish_lose (by omega) (by omega) hsh), Ila_c (g := g) (h := g) rfl rfl hla⟩
             · subst hh; rfl
             · subst hh; rfl)
      · refine o_aload_n (n := 20) rfl rfl rfl ?_
        refine o_iconst (n := 21) rfl rfl ?_
        refine o_invi (n := 24) rfl rfl rfl rfl rfl rfl rfl rfl rfl rfl (c8_finds _ (by omega) (by omega)) ?_
        refine o_iret rfl rfl ?_
        first
          | (exfalso; omega; done)
          | (refine ⟨rfl, ?_, ?_, ?_⟩
             · subst hh; exact ⟨⟨hS, hR, h6, hP⟩, Isg_c (g := g) (h := g) rfl rfl hsg, Itx_c (g := g) (h := g) rfl rfl rfl rfl htx, Iru_c (g := g) (h := g) (r := r) (by omega) hR (fun _ _ _ => rfl) (fun _ _ _ => rfl) rfl rfl rfl rfl rfl rfl rfl rfl hru, Iwd_c (g := g) (h := g) (by omega) rfl rfl rfl rfl rfl rfl hwd, Inw_c (g := g) (h := g) rfl rfl rfl rfl (fun _ _ _ => rfl) hnw, Ist_c (g := g) (h := g) (r := r) hR rfl rfl (fun _ _ _ => rfl) (fun _ _ _ => rfl) rfl rfl rfl rfl (fun _ _ => rfl) (fun _ _ => rfl) (fun _ _ => rfl) rfl rfl rfl hst, Ish_c (g := g) (h := g) rfl rfl rfl rfl rfl hsh, rfl⟩
             · subst hh; rfl
             · subst hh; rfl)
          | (refine ⟨congrArg (fun z => some (vI z)) ?_, ?_, ?_, ?_⟩
             · omega
             · subst hh; exact ⟨⟨hS, hR, h6, hP⟩, Isg_c (g := g) (h := g) rfl rfl hsg, Itx_c (g := g) (h := g) rfl rfl rfl rfl htx, Iru_c (g := g) (h := g) (r := r) (by omega) hR (fun _ _ _ => rfl) (fun _ _ _ => rfl) rfl rfl rfl rfl rfl rfl rfl rfl hru, Iwd_c (g := g) (h := g) (by omega) rfl rfl rfl rfl rfl rfl hwd, Inw_c (g := g) (h := g) rfl rfl rfl rfl (fun _ _ _ => rfl) hnw, Ist_c (g := g) (h := g) (r := r) hR rfl rfl (fun _ _ _ => rfl) (fun _ _ _ => rfl) rfl rfl rfl rfl (fun _ _ => rfl) (fun _ _ => rfl) (fun _ _ => rfl) rfl rfl rfl hst, Ish_c (g := g) (h := g) rfl rfl rfl rfl rfl hsh, rfl⟩
             · subst hh; rfl
             · subst hh; rfl)
    · refine o_bipush (n := 9) rfl rfl ?_
      refine o_iret rfl rfl ?_
      first
        | (exfalso; omega; done)
        | (refine ⟨rfl, ?_, ?_, ?_⟩
           · subst hh; exact ⟨⟨hS, hR, h6, hP⟩, Isg_c (g := g) (h := g) rfl rfl hsg, Itx_c (g := g) (h := g) rfl rfl rfl rfl htx, Iru_c (g := g) (h := g) (r := r) (by omega) hR (fun _ _ _ => rfl) (fun _ _ _ => rfl) rfl rfl rfl rfl rfl rfl rfl rfl hru, Iwd_c (g := g) (h := g) (by omega) rfl rfl rfl rfl rfl rfl hwd, Inw_c (g := g) (h := g) rfl rfl rfl rfl (fun _ _ _ => rfl) hnw, Ist_c (g := g) (h := g) (r := r) hR rfl rfl (fun _ _ _ => rfl) (fun _ _ _ => rfl) rfl rfl rfl rfl (fun _ _ => rfl) (fun _ _ => rfl) (fun _ _ => rfl) rfl rfl rfl hst, Ish_c (g := g) (h := g) rfl rfl rfl rfl rfl hsh, Ila_c (g := g) (h := g) rfl rfl hla⟩
           · subst hh; rfl
           · subst hh; rfl)
        | (refine ⟨congrArg (fun z => some (vI z)) ?_, ?_, ?_, ?_⟩
           · omega
           · subst hh; exact ⟨⟨hS, hR, h6, hP⟩, Isg_c (g := g) (h := g) rfl rfl hsg, Itx_c (g := g) (h := g) rfl rfl rfl rfl htx, Iru_c (g := g) (h := g) (r := r) (by omega) hR (fun _ _ _ => rfl) (fun _ _ _ => rfl) rfl rfl rfl rfl rfl rfl rfl rfl hru, Iwd_c (g := g) (h := g) (by omega) rfl rfl rfl rfl rfl rfl hwd, Inw_c (g := g) (h := g) rfl rfl rfl rfl (fun _ _ _ => rfl) hnw, Ist_c (g := g) (h := g) (r := r) hR rfl rfl (fun _ _ _ => rfl) (fun _ _ _ => rfl) rfl rfl rfl rfl (fun _ _ => rfl) (fun _ _ => rfl) (fun _ _ => rfl) rfl rfl rfl hst, Ish_c (g := g) (h := g) rfl rfl rfl rfl rfl hsh, Ila_c (g := g) (h := g) rfl rfl hla⟩
           · subst hh; rfl
           · subst hh; rfl)
theorem p_lay (a : Int) (f : Int) (i : Int) (v : Int) : Pr 75 118 [vI a, vI f, vI i, vI v] := by
  intro c g r hc0 hc1 hI
  have hI' := hI
  obtain ⟨⟨hS, hR, h6, hP⟩, hsg, htx, hru, hwd, hnw, hst, hsh, hla⟩ := hI'
  show Ou 75 0 [vR 7 0, vI a, vI f, vI i, vI v, vN] [] g r _
  obtain ⟨sg1, sg2, sg3⟩ := hI.2.1
  obtain ⟨tx1, tx2, tx3, tx4⟩ := hI.2.2.1
  have ru0 : g 7 0 10 = g 8 0 8 := hI.2.2.2.1.1.1
  have ru1 := hI.2.2.2.1.2.1.1
  have wd0 : g 1 0 1 = g 8 0 14 := hI.2.2.2.2.1.1.1
  have wd1 := hI.2.2.2.2.1.2.1.1
  have wd2 := hI.2.2.2.2.1.2.2
  have nw0 : g 0 0 0 = g 27 0 8 := hI.2.2.2.2.2.1.1.1
  have nw1 : g 0 0 1 = g 28 0 8 := hI.2.2.2.2.2.1.1.2.1
  have nw2 := hI.2.2.2.2.2.1.2.1
  have nw3 := hI.2.2.2.2.2.1.2.2.1
  have st0 := hI.2.2.2.2.2.2.1.1
  have st1 := hI.2.2.2.2.2.2.1.2.1
  have st2 := hI.2.2.2.2.2.2.1.2.2.1
  have la0 : g 7 0 13 = g 8 0 4 := hI.2.2.2.2.2.2.2.2
  have sh_a : (0 ≤ a ∧ a < 4) → (g 3 a 0 = g 17 0 a ∧ -1 ≤ g 17 0 a ∧ g 17 0 a ≤ 2 ∧ g 3 a 1 = g 18 0 a ∧ 0 ≤ g 18 0 a ∧ g 18 0 a ≤ 60) := fun z => by
    have := hsh a z.1 z.2
    exact ⟨this.1.1, this.1.2.1, this.1.2.2, this.2.1.1, this.2.1.2.1, this.2.1.2.2⟩
  refine o_iload_n (n := 1) rfl rfl rfl ?_
  refine o_invsi (n := 4) rfl rfl rfl rfl rfl rfl (c7_isSheet _) ?_
  refine o_ifb_eq (n := 7) (t := 14) rfl rfl rfl (fun q4 => ?_) (fun q4 => ?_)
  · refine o_bipush (n := 16) rfl rfl ?_
    refine o_iret rfl rfl ?_
    refine q8_of (g := g) (r := r) (fun k hk => by first | rfl | exact gset_kf (isM_ne hk (by decide)) | exact (gset_kf (isM_ne hk (by decide))).trans (gset_kf (isM_ne hk (by decide))) | exact (gset_kf (isM_ne hk (by decide))).trans ((gset_kf (isM_ne hk (by decide))).trans (gset_kf (isM_ne hk (by decide)))) | exact (gset_kf (isM_ne hk (by decide))).trans ((gset_kf (isM_ne hk (by decide))).trans ((gset_kf (isM_ne hk (by decide))).trans (gset_kf (isM_ne hk (by decide)))))) hI (fun h hh hJ => ?_)
    show Ou 118 0 [vR 8 0, vI a, vI f, vI i, vI v, vN] [] h _ _
    obtain ⟨jsg1, jsg2, jsg3⟩ := hJ.2.1
    obtain ⟨jtx1, jtx2, jtx3, jtx4⟩ := hJ.2.2.1
    have jru0 : g 7 0 10 = h 8 0 8 := hJ.2.2.2.1.1.1
    have jru1 := hJ.2.2.2.1.2.1.1
    have jwd0 : g 1 0 1 = h 8 0 14 := hJ.2.2.2.2.1.1.1
    have jwd1 := hJ.2.2.2.2.1.2.1.1
    have jwd2 := hJ.2.2.2.2.1.2.2
    have jnw0 : g 0 0 0 = h 27 0 8 := hJ.2.2.2.2.2.1.1.1
    have jnw1 : g 0 0 1 = h 28 0 8 := hJ.2.2.2.2.2.1.1.2.1
    have jnw2 := hJ.2.2.2.2.2.1.2.1
    have jnw3 := hJ.2.2.2.2.2.1.2.2.1
    have jst0 := hJ.2.2.2.2.2.2.1.1
    have jst1 := hJ.2.2.2.2.2.2.1.2.1
    have jst2 := hJ.2.2.2.2.2.2.1.2.2.1
    have jla0 : g 7 0 13 = h 8 0 4 := hJ.2.2.2.2.2.2.2.2
    have jsh_a : (0 ≤ a ∧ a < 4) → (g 3 a 0 = h 17 0 a ∧ -1 ≤ h 17 0 a ∧ h 17 0 a ≤ 2 ∧ g 3 a 1 = h 18 0 a ∧ 0 ≤ h 18 0 a ∧ h 18 0 a ≤ 60) := fun z => by
      have := hJ.2.2.2.2.2.2.2.1 a z.1 z.2
      exact ⟨this.1.1, this.1.2.1, this.1.2.2, this.2.1.1, this.2.1.2.1, this.2.1.2.2⟩
    refine o_iload_n (n := 1) rfl rfl rfl ?_
    refine o_invsi (n := 4) rfl rfl rfl rfl rfl rfl (c8_isSheet _) ?_
    refine o_ifb_eq (n := 7) (t := 19) rfl rfl rfl (fun k4 => ?_) (fun k4 => ?_)
    · refine o_bipush (n := 21) rfl rfl ?_
      refine o_iret rfl rfl ?_
      first
        | (exfalso; omega; done)
        | (refine ⟨rfl, ?_, ?_, ?_⟩
           · subst hh; exact ⟨⟨hS, hR, h6, hP⟩, Isg_c (g := g) (h := g) rfl rfl hsg, Itx_c (g := g) (h := g) rfl rfl rfl rfl htx, Iru_c (g := g) (h := g) (r := r) (by omega) hR (fun _ _ _ => rfl) (fun _ _ _ => rfl) rfl rfl rfl rfl rfl rfl rfl rfl hru, Iwd_c (g := g) (h := g) (by omega) rfl rfl rfl rfl rfl rfl hwd, Inw_c (g := g) (h := g) rfl rfl rfl rfl (fun _ _ _ => rfl) hnw, Ist_c (g := g) (h := g) (r := r) hR rfl rfl (fun _ _ _ => rfl) (fun _ _ _ => rfl) rfl rfl rfl rfl (fun _ _ => rfl) (fun _ _ => rfl) (fun _ _ => rfl) rfl rfl rfl hst, Ish_c (g := g) (h := g) rfl rfl rfl rfl rfl hsh, Ila_c (g := g) (h := g) rfl rfl hla⟩
           · subst hh; rfl
           · subst hh; rfl)
        | (refine ⟨congrArg (fun z => some (vI z)) ?_, ?_, ?_, ?_⟩
           · omega
           · subst hh; exact ⟨⟨hS, hR, h6, hP⟩, Isg_c (g := g) (h := g) rfl rfl hsg, Itx_c (g := g) (h := g) rfl rfl rfl rfl htx, Iru_c (g := g) (h := g) (r := r) (by omega) hR (fun _ _ _ => rfl) (fun _ _ _ => rfl) rfl rfl rfl rfl rfl rfl rfl rfl hru, Iwd_c (g := g) (h := g) (by omega) rfl rfl rfl rfl rfl rfl hwd, Inw_c (g := g) (h := g) rfl rfl rfl rfl (fun _ _ _ => rfl) hnw, Ist_c (g := g) (h := g) (r := r) hR rfl rfl (fun _ _ _ => rfl) (fun _ _ _ => rfl) rfl rfl rfl rfl (fun _ _ => rfl) (fun _ _ => rfl) (fun _ _ => rfl) rfl rfl rfl hst, Ish_c (g := g) (h := g) rfl rfl rfl rfl rfl hsh, Ila_c (g := g) (h := g) rfl rfl hla⟩
           · subst hh; rfl
           · subst hh; rfl)
    · refine o_iload_n (n := 8) rfl rfl rfl ?_
      refine o_i2l (n := 9) rfl rfl ?_
      refine o_lconst (n := 10) rfl rfl ?_
      refine o_ldc2_w (n := 13) rfl rfl ?_
      refine o_invsi (n := 16) rfl rfl rfl rfl rfl rfl (c8_in _ _ _) ?_
      refine o_ifb_ne (n := 19) (t := 22) rfl rfl rfl (fun k16 => ?_) (fun k16 => ?_)
      · refine o_aload_n (n := 23) rfl rfl rfl ?_
        refine o_iload_n (n := 24) rfl rfl rfl ?_
        refine o_iload_n (n := 25) rfl rfl rfl ?_
        refine o_iload_n (n := 26) rfl rfl rfl ?_
        have hle := lk_eq (g := g) (h := h) (s := a) (f := f) (i := i) (by omega) (by omega) hJ.2.2.2.2.2.2.2.1
        have hlc := c8_lacks (g := h) (r := r) hS a f i (by omega) (by omega) (by omega) (by omega)
        rw [hle] at hlc
        first
          | rw [show lk3 g a f i = 0 by omega, fv_0, fs8_0] at hlc
          | rw [fv_n (show lk3 g a f i ≠ 0 by omega), fs8_n (show lk3 g a f i ≠ 0 by omega)] at hlc
        refine o_invi (n := 29) rfl rfl rfl rfl rfl rfl rfl rfl rfl rfl (hlc) ?_
        refine o_istore_5 (n := 31) rfl rfl rfl ?_
        refine o_iload (n := 33) rfl rfl rfl ?_
        refine o_if_eq (n := 36) (t := 39) rfl rfl rfl (fun k33 => ?_) (fun k33 => ?_)
        · refine o_aload_n (n := 40) rfl rfl rfl ?_
          refine of_8_2 (n := 43) hS rfl rfl ?_
          refine o_bipush (n := 45) rfl rfl ?_
          refine o_iload_n (n := 46) rfl rfl rfl ?_
          refine o_imul (n := 47) rfl rfl (by omega) ?_
          refine o_iload_n (n := 48) rfl rfl rfl ?_
          refine o_iadd (n := 49) rfl rfl (by omega) ?_
          refine o_iload_n (n := 50) rfl rfl rfl ?_
          refine o_iload (n := 52) rfl rfl rfl ?_
          refine o_invsi (n := 55) rfl rfl rfl rfl rfl rfl (c8_cut _ _) ?_
          refine o_iast (n := 56) (L := 240) rfl rfl rfl rfl rfl (by omega) (by omega) ?_
          refine o_iconst (n := 57) rfl rfl ?_
          refine o_iret rfl rfl ?_
          first
            | (exfalso; omega; done)
            | (refine ⟨rfl, ?_, ?_, ?_⟩
               · subst hh; exact ⟨⟨hS, hR, h6, hP⟩, Isg_c (g := g) (h := g) rfl rfl hsg, Itx_c (g := g) (h := g) rfl rfl rfl rfl htx, Iru_c (g := g) (h := g) (r := r) (by omega) hR (fun _ _ _ => rfl) (fun _ _ _ => rfl) rfl rfl rfl rfl rfl rfl rfl rfl hru, Iwd_c (g := g) (h := g) (by omega) rfl rfl rfl rfl rfl rfl hwd, Inw_c (g := g) (h := g) rfl rfl rfl rfl (fun _ _ _ => rfl) hnw, Ist_c (g := g) (h := g) (r := r) hR rfl rfl (fun _ _ _ => rfl) (fun _ _ _ => rfl) rfl rfl rfl rfl (fun _ _ => rfl) (fun _ _ => rfl) (fun _ _ => rfl) rfl rfl rfl hst, Ish_c (g := gset g 11 a i (ct (g 3 a 0) v)) (h := gset g 19 0 (60 * a + i) (ct (g 3 a 0) v)) rfl rfl rfl rfl (by rw [show g 3 a 0 = f by omega]; rfl) (Ish_put (by omega) (by omega) hsh), Ila_c (g := g) (h := g) rfl rfl hla⟩
               · subst hh; rfl
               · subst hh; rfl)
            | (refine ⟨congrArg (fun z => some (vI z)) ?_, ?_, ?_, ?_⟩
               · omega
               · subst hh; exact ⟨⟨hS, hR, h6, hP⟩, Isg_c (g := g) (h := g) rfl rfl hsg, Itx_c (g := g) (h := g) rfl rfl rfl rfl htx, Iru_c (g := g) (h := g) (r := r) (by omega) hR (fun _ _ _ => rfl) (fun _ _ _ => rfl) rfl rfl rfl rfl rfl rfl rfl rfl hru, Iwd_c (g := g) (h := g) (by omega) rfl rfl rfl rfl rfl rfl hwd, Inw_c (g := g) (h := g) rfl rfl rfl rfl (fun _ _ _ => rfl) hnw, Ist_c (g := g) (h := g) (r := r) hR rfl rfl (fun _ _ _ => rfl) (fun _ _ _ => rfl) rfl rfl rfl rfl (fun _ _ => rfl) (fun _ _ => rfl) (fun _ _ => rfl) rfl rfl rfl hst, Ish_c (g := gset g 11 a i (ct (g 3 a 0) v)) (h := gset g 19 0 (60 * a + i) (ct (g 3 a 0) v)) rfl rfl rfl rfl (by rw [show g 3 a 0 = f by omega]; rfl) (Ish_put (by omega) (by omega) hsh), Ila_c (g := g) (h := g) rfl rfl hla⟩
               · subst hh; rfl
               · subst hh; rfl)
        · refine o_iload (n := 38) rfl rfl rfl ?_
          refine o_iret rfl rfl ?_
          first
            | (exfalso; omega; done)
            | (refine ⟨rfl, ?_, ?_, ?_⟩
               · subst hh; exact ⟨⟨hS, hR, h6, hP⟩, Isg_c (g := g) (h := g) rfl rfl hsg, Itx_c (g := g) (h := g) rfl rfl rfl rfl htx, Iru_c (g := g) (h := g) (r := r) (by omega) hR (fun _ _ _ => rfl) (fun _ _ _ => rfl) rfl rfl rfl rfl rfl rfl rfl rfl hru, Iwd_c (g := g) (h := g) (by omega) rfl rfl rfl rfl rfl rfl hwd, Inw_c (g := g) (h := g) rfl rfl rfl rfl (fun _ _ _ => rfl) hnw, Ist_c (g := g) (h := g) (r := r) hR rfl rfl (fun _ _ _ => rfl) (fun _ _ _ => rfl) rfl rfl rfl rfl (fun _ _ => rfl) (fun _ _ => rfl) (fun _ _ => rfl) rfl rfl rfl hst, Ish_c (g := g) (h := g) rfl rfl rfl rfl rfl hsh, rfl⟩
               · subst hh; rfl
               · subst hh; rfl)
            | (refine ⟨congrArg (fun z => some (vI z)) ?_, ?_, ?_, ?_⟩
               · omega
               · subst hh; exact ⟨⟨hS, hR, h6, hP⟩, Isg_c (g := g) (h := g) rfl rfl hsg, Itx_c (g := g) (h := g) rfl rfl rfl rfl htx, Iru_c (g := g) (h := g) (r := r) (by omega) hR (fun _ _ _ => rfl) (fun _ _ _ => rfl) rfl rfl rfl rfl rfl rfl rfl rfl hru, Iwd_c (g := g) (h := g) (by omega) rfl rfl rfl rfl rfl rfl hwd, Inw_c (g := g) (h := g) rfl rfl rfl rfl (fun _ _ _ => rfl) hnw, Ist_c (g := g) (h := g) (r := r) hR rfl rfl (fun _ _ _ => rfl) (fun _ _ _ => rfl) rfl rfl rfl rfl (fun _ _ => rfl) (fun _ _ => rfl) (fun _ _ => rfl) rfl rfl rfl hst, Ish_c (g := g) (h := g) rfl rfl rfl rfl rfl hsh, rfl⟩
               · subst hh; rfl
               · subst hh; rfl)
      · refine o_bipush (n := 21) rfl rfl ?_
        refine o_iret rfl rfl ?_
        first
          | (exfalso; omega; done)
          | (refine ⟨rfl, ?_, ?_, ?_⟩
             · subst hh; exact ⟨⟨hS, hR, h6, hP⟩, Isg_c (g := g) (h := g) rfl rfl hsg, Itx_c (g := g) (h := g) rfl rfl rfl rfl htx, Iru_c (g := g) (h := g) (r := r) (by omega) hR (fun _ _ _ => rfl) (fun _ _ _ => rfl) rfl rfl rfl rfl rfl rfl rfl rfl hru, Iwd_c (g := g) (h := g) (by omega) rfl rfl rfl rfl rfl rfl hwd, Inw_c (g := g) (h := g) rfl rfl rfl rfl (fun _ _ _ => rfl) hnw, Ist_c (g := g) (h := g) (r := r) hR rfl rfl (fun _ _ _ => rfl) (fun _ _ _ => rfl) rfl rfl rfl rfl (fun _ _ => rfl) (fun _ _ => rfl) (fun _ _ => rfl) rfl rfl rfl hst, Ish_c (g := g) (h := g) rfl rfl rfl rfl rfl hsh, Ila_c (g := g) (h := g) rfl rfl hla⟩
             · subst hh; rfl
             · subst hh; rfl)
          | (refine ⟨congrArg (fun z => some (vI z)) ?_, ?_, ?_, ?_⟩
             · omega
             · subst hh; exact ⟨⟨hS, hR, h6, hP⟩, Isg_c (g := g) (h := g) rfl rfl hsg, Itx_c (g := g) (h := g) rfl rfl rfl rfl htx, Iru_c (g := g) (h := g) (r := r) (by omega) hR (fun _ _ _ => rfl) (fun _ _ _ => rfl) rfl rfl rfl rfl rfl rfl rfl rfl hru, Iwd_c (g := g) (h := g) (by omega) rfl rfl rfl rfl rfl rfl hwd, Inw_c (g := g) (h := g) rfl rfl rfl rfl (fun _ _ _ => rfl) hnw, Ist_c (g := g) (h := g) (r := r) hR rfl rfl (fun _ _ _ => rfl) (fun _ _ _ => rfl) rfl rfl rfl rfl (fun _ _ => rfl) (fun _ _ => rfl) (fun _ _ => rfl) rfl rfl rfl hst, Ish_c (g := g) (h := g) rfl rfl rfl rfl rfl hsh, Ila_c (g := g) (h := g) rfl rfl hla⟩
             · subst hh; rfl
             · subst hh; rfl)
  · refine o_iload_n (n := 8) rfl rfl rfl ?_
    refine o_invsi (n := 11) rfl rfl rfl rfl rfl rfl (c7_isForm _) ?_
    refine o_ifb_ne (n := 14) (t := 17) rfl rfl rfl (fun q11 => ?_) (fun q11 => ?_)
    · refine o_aload_n (n := 18) rfl rfl rfl ?_
      refine of_7_4 (n := 21) hS rfl rfl ?_
      refine o_iload_n (n := 22) rfl rfl rfl ?_
      refine o_shr (n := 23) hS rfl rfl (by omega) (by omega) ?_
      refine o_iload_n (n := 24) rfl rfl rfl ?_
      refine o_iload_n (n := 25) rfl rfl rfl ?_
      have hlk := lk3_r (g := g) (s := a) (f := f) (i := i)
      refine o_invi (n := 28) rfl rfl rfl rfl rfl rfl rfl rfl rfl (ok_3 (by omega) (by omega)) (c3_findingAt a f i (by omega) (by omega)) ?_
      refine o_istore_5 (n := 30) rfl rfl rfl ?_
      refine o_iload (n := 32) rfl rfl rfl ?_
      refine o_if_eq (n := 35) (t := 42) rfl rfl rfl (fun q32 => ?_) (fun q32 => ?_)
      · refine o_aload_n (n := 43) rfl rfl rfl ?_
        refine of_7_4 (n := 46) hS rfl rfl ?_
        refine o_iload_n (n := 47) rfl rfl rfl ?_
        refine o_shr (n := 48) hS rfl rfl (by omega) (by omega) ?_
        refine o_iload_n (n := 49) rfl rfl rfl ?_
        refine o_iload (n := 51) rfl rfl rfl ?_
        refine o_invv (n := 54) rfl rfl rfl rfl rfl rfl rfl rfl rfl (ok_3 (by omega) (by omega)) (c3_put hS _ _ _ (by omega) (by omega) (by omega) (by omega)) ?_
        refine o_iconst (n := 55) rfl rfl ?_
        refine o_iret rfl rfl ?_
        refine q8_of (g := g) (r := r) (fun k hk => by first | rfl | exact gset_kf (isM_ne hk (by decide)) | exact (gset_kf (isM_ne hk (by decide))).trans (gset_kf (isM_ne hk (by decide))) | exact (gset_kf (isM_ne hk (by decide))).trans ((gset_kf (isM_ne hk (by decide))).trans (gset_kf (isM_ne hk (by decide)))) | exact (gset_kf (isM_ne hk (by decide))).trans ((gset_kf (isM_ne hk (by decide))).trans ((gset_kf (isM_ne hk (by decide))).trans (gset_kf (isM_ne hk (by decide)))))) hI (fun h hh hJ => ?_)
        show Ou 118 0 [vR 8 0, vI a, vI f, vI i, vI v, vN] [] h _ _
        obtain ⟨jsg1, jsg2, jsg3⟩ := hJ.2.1
        obtain ⟨jtx1, jtx2, jtx3, jtx4⟩ := hJ.2.2.1
        have jru0 : g 7 0 10 = h 8 0 8 := hJ.2.2.2.1.1.1
        have jru1 := hJ.2.2.2.1.2.1.1
        have jwd0 : g 1 0 1 = h 8 0 14 := hJ.2.2.2.2.1.1.1
        have jwd1 := hJ.2.2.2.2.1.2.1.1
        have jwd2 := hJ.2.2.2.2.1.2.2
        have jnw0 : g 0 0 0 = h 27 0 8 := hJ.2.2.2.2.2.1.1.1
        have jnw1 : g 0 0 1 = h 28 0 8 := hJ.2.2.2.2.2.1.1.2.1
        have jnw2 := hJ.2.2.2.2.2.1.2.1
        have jnw3 := hJ.2.2.2.2.2.1.2.2.1
        have jst0 := hJ.2.2.2.2.2.2.1.1
        have jst1 := hJ.2.2.2.2.2.2.1.2.1
        have jst2 := hJ.2.2.2.2.2.2.1.2.2.1
        have jla0 : g 7 0 13 = h 8 0 4 := hJ.2.2.2.2.2.2.2.2
        have jsh_a : (0 ≤ a ∧ a < 4) → (g 3 a 0 = h 17 0 a ∧ -1 ≤ h 17 0 a ∧ h 17 0 a ≤ 2 ∧ g 3 a 1 = h 18 0 a ∧ 0 ≤ h 18 0 a ∧ h 18 0 a ≤ 60) := fun z => by
          have := hJ.2.2.2.2.2.2.2.1 a z.1 z.2
          exact ⟨this.1.1, this.1.2.1, this.1.2.2, this.2.1.1, this.2.1.2.1, this.2.1.2.2⟩
        refine o_iload_n (n := 1) rfl rfl rfl ?_
        refine o_invsi (n := 4) rfl rfl rfl rfl rfl rfl (c8_isSheet _) ?_
        refine o_ifb_eq (n := 7) (t := 19) rfl rfl rfl (fun k4 => ?_) (fun k4 => ?_)
        · refine o_bipush (n := 21) rfl rfl ?_
          refine o_iret rfl rfl ?_
          first
            | (exfalso; omega; done)
            | (refine ⟨rfl, ?_, ?_, ?_⟩
               · subst hh; exact ⟨⟨hS, hR, h6, hP⟩, Isg_c (g := g) (h := g) rfl rfl hsg, Itx_c (g := g) (h := g) rfl rfl rfl rfl htx, Iru_c (g := g) (h := g) (r := r) (by omega) hR (fun _ _ _ => rfl) (fun _ _ _ => rfl) rfl rfl rfl rfl rfl rfl rfl rfl hru, Iwd_c (g := g) (h := g) (by omega) rfl rfl rfl rfl rfl rfl hwd, Inw_c (g := g) (h := g) rfl rfl rfl rfl (fun _ _ _ => rfl) hnw, Ist_c (g := g) (h := g) (r := r) hR rfl rfl (fun _ _ _ => rfl) (fun _ _ _ => rfl) rfl rfl rfl rfl (fun _ _ => rfl) (fun _ _ => rfl) (fun _ _ => rfl) rfl rfl rfl hst, Ish_c (g := g) (h := g) rfl rfl rfl rfl rfl hsh, Ila_c (g := g) (h := g) rfl rfl hla⟩
               · subst hh; rfl
               · subst hh; rfl)
            | (refine ⟨congrArg (fun z => some (vI z)) ?_, ?_, ?_, ?_⟩
               · omega
               · subst hh; exact ⟨⟨hS, hR, h6, hP⟩, Isg_c (g := g) (h := g) rfl rfl hsg, Itx_c (g := g) (h := g) rfl rfl rfl rfl htx, Iru_c (g := g) (h := g) (r := r) (by omega) hR (fun _ _ _ => rfl) (fun _ _ _ => rfl) rfl rfl rfl rfl rfl rfl rfl rfl hru, Iwd_c (g := g) (h := g) (by omega) rfl rfl rfl rfl rfl rfl hwd, Inw_c (g := g) (h := g) rfl rfl rfl rfl (fun _ _ _ => rfl) hnw, Ist_c (g := g) (h := g) (r := r) hR rfl rfl (fun _ _ _ => rfl) (fun _ _ _ => rfl) rfl rfl rfl rfl (fun _ _ => rfl) (fun _ _ => rfl) (fun _ _ => rfl) rfl rfl rfl hst, Ish_c (g := g) (h := g) rfl rfl rfl rfl rfl hsh, Ila_c (g := g) (h := g) rfl rfl hla⟩
               · subst hh; rfl
               · subst hh; rfl)
        · refine o_iload_n (n := 8) rfl rfl rfl ?_
          refine o_i2l (n := 9) rfl rfl ?_
          refine o_lconst (n := 10) rfl rfl ?_
          refine o_ldc2_w (n := 13) rfl rfl ?_
          refine o_invsi (n := 16) rfl rfl rfl rfl rfl rfl (c8_in _ _ _) ?_
          refine o_ifb_ne (n := 19) (t := 22) rfl rfl rfl (fun k16 => ?_) (fun k16 => ?_)
          · refine o_aload_n (n := 23) rfl rfl rfl ?_
            refine o_iload_n (n := 24) rfl rfl rfl ?_
            refine o_iload_n (n := 25) rfl rfl rfl ?_
            refine o_iload_n (n := 26) rfl rfl rfl ?_
            have hle := lk_eq (g := g) (h := h) (s := a) (f := f) (i := i) (by omega) (by omega) hJ.2.2.2.2.2.2.2.1
            have hlc := c8_lacks (g := h) (r := r) hS a f i (by omega) (by omega) (by omega) (by omega)
            rw [hle] at hlc
            first
              | rw [show lk3 g a f i = 0 by omega, fv_0, fs8_0] at hlc
              | rw [fv_n (show lk3 g a f i ≠ 0 by omega), fs8_n (show lk3 g a f i ≠ 0 by omega)] at hlc
            refine o_invi (n := 29) rfl rfl rfl rfl rfl rfl rfl rfl rfl rfl (hlc) ?_
            refine o_istore_5 (n := 31) rfl rfl rfl ?_
            refine o_iload (n := 33) rfl rfl rfl ?_
            refine o_if_eq (n := 36) (t := 39) rfl rfl rfl (fun k33 => ?_) (fun k33 => ?_)
            · refine o_aload_n (n := 40) rfl rfl rfl ?_
              refine of_8_2 (n := 43) hS rfl rfl ?_
              refine o_bipush (n := 45) rfl rfl ?_
              refine o_iload_n (n := 46) rfl rfl rfl ?_
              refine o_imul (n := 47) rfl rfl (by omega) ?_
              refine o_iload_n (n := 48) rfl rfl rfl ?_
              refine o_iadd (n := 49) rfl rfl (by omega) ?_
              refine o_iload_n (n := 50) rfl rfl rfl ?_
              refine o_iload (n := 52) rfl rfl rfl ?_
              refine o_invsi (n := 55) rfl rfl rfl rfl rfl rfl (c8_cut _ _) ?_
              refine o_iast (n := 56) (L := 240) rfl rfl rfl rfl rfl (by omega) (by omega) ?_
              refine o_iconst (n := 57) rfl rfl ?_
              refine o_iret rfl rfl ?_
              first
                | (exfalso; omega; done)
                | (refine ⟨rfl, ?_, ?_, ?_⟩
                   · subst hh; exact ⟨⟨hS, hR, h6, hP⟩, Isg_c (g := g) (h := g) rfl rfl hsg, Itx_c (g := g) (h := g) rfl rfl rfl rfl htx, Iru_c (g := g) (h := g) (r := r) (by omega) hR (fun _ _ _ => rfl) (fun _ _ _ => rfl) rfl rfl rfl rfl rfl rfl rfl rfl hru, Iwd_c (g := g) (h := g) (by omega) rfl rfl rfl rfl rfl rfl hwd, Inw_c (g := g) (h := g) rfl rfl rfl rfl (fun _ _ _ => rfl) hnw, Ist_c (g := g) (h := g) (r := r) hR rfl rfl (fun _ _ _ => rfl) (fun _ _ _ => rfl) rfl rfl rfl rfl (fun _ _ => rfl) (fun _ _ => rfl) (fun _ _ => rfl) rfl rfl rfl hst, Ish_c (g := gset g 11 a i (ct (g 3 a 0) v)) (h := gset g 19 0 (60 * a + i) (ct (g 3 a 0) v)) rfl rfl rfl rfl (by rw [show g 3 a 0 = f by omega]; rfl) (Ish_put (by omega) (by omega) hsh), Ila_c (g := g) (h := g) rfl rfl hla⟩
                   · subst hh; rfl
                   · subst hh; rfl)
                | (refine ⟨congrArg (fun z => some (vI z)) ?_, ?_, ?_, ?_⟩
                   · omega
                   · subst hh; exact ⟨⟨hS, hR, h6, hP⟩, Isg_c (g := g) (h := g) rfl rfl hsg, Itx_c (g := g) (h := g) rfl rfl rfl rfl htx, Iru_c (g := g) (h := g) (r := r) (by omega) hR (fun _ _ _ => rfl) (fun _ _ _ => rfl) rfl rfl rfl rfl rfl rfl rfl rfl hru, Iwd_c (g := g) (h := g) (by omega) rfl rfl rfl rfl rfl rfl hwd, Inw_c (g := g) (h := g) rfl rfl rfl rfl (fun _ _ _ => rfl) hnw, Ist_c (g := g) (h := g) (r := r) hR rfl rfl (fun _ _ _ => rfl) (fun _ _ _ => rfl) rfl rfl rfl rfl (fun _ _ => rfl) (fun _ _ => rfl) (fun _ _ => rfl) rfl rfl rfl hst, Ish_c (g := gset g 11 a i (ct (g 3 a 0) v)) (h := gset g 19 0 (60 * a + i) (ct (g 3 a 0) v)) rfl rfl rfl rfl (by rw [show g 3 a 0 = f by omega]; rfl) (Ish_put (by omega) (by omega) hsh), Ila_c (g := g) (h := g) rfl rfl hla⟩
                   · subst hh; rfl
                   · subst hh; rfl)
            · refine o_iload (n := 38) rfl rfl rfl ?_
              refine o_iret rfl rfl ?_
              first
                | (exfalso; omega; done)
                | (refine ⟨rfl, ?_, ?_, ?_⟩
                   · subst hh; exact ⟨⟨hS, hR, h6, hP⟩, Isg_c (g := g) (h := g) rfl rfl hsg, Itx_c (g := g) (h := g) rfl rfl rfl rfl htx, Iru_c (g := g) (h := g) (r := r) (by omega) hR (fun _ _ _ => rfl) (fun _ _ _ => rfl) rfl rfl rfl rfl rfl rfl rfl rfl hru, Iwd_c (g := g) (h := g) (by omega) rfl rfl rfl rfl rfl rfl hwd, Inw_c (g := g) (h := g) rfl rfl rfl rfl (fun _ _ _ => rfl) hnw, Ist_c (g := g) (h := g) (r := r) hR rfl rfl (fun _ _ _ => rfl) (fun _ _ _ => rfl) rfl rfl rfl rfl (fun _ _ => rfl) (fun _ _ => rfl) (fun _ _ => rfl) rfl rfl rfl hst, Ish_c (g := g) (h := g) rfl rfl rfl rfl rfl hsh, rfl⟩
                   · subst hh; rfl
                   · subst hh; rfl)
                | (refine ⟨congrArg (fun z => some (vI z)) ?_, ?_, ?_, ?_⟩
                   · omega
                   · subst hh; exact ⟨⟨hS, hR, h6, hP⟩, Isg_c (g := g) (h := g) rfl rfl hsg, Itx_c (g := g) (h := g) rfl rfl rfl rfl htx, Iru_c (g := g) (h := g) (r := r) (by omega) hR (fun _ _ _ => rfl) (fun _ _ _ => rfl) rfl rfl rfl rfl rfl rfl rfl rfl hru, Iwd_c (g := g) (h := g) (by omega) rfl rfl rfl rfl rfl rfl hwd, Inw_c (g := g) (h := g) rfl rfl rfl rfl (fun _ _ _ => rfl) hnw, Ist_c (g := g) (h := g) (r := r) hR rfl rfl (fun _ _ _ => rfl) (fun _ _ _ => rfl) rfl rfl rfl rfl (fun _ _ => rfl) (fun _ _ => rfl) (fun _ _ => rfl) rfl rfl rfl hst, Ish_c (g := g) (h := g) rfl rfl rfl rfl rfl hsh, rfl⟩
                   · subst hh; rfl
                   · subst hh; rfl)
          · refine o_bipush (n := 21) rfl rfl ?_
            refine o_iret rfl rfl ?_
            first
              | (exfalso; omega; done)
              | (refine ⟨rfl, ?_, ?_, ?_⟩
                 · subst hh; exact ⟨⟨hS, hR, h6, hP⟩, Isg_c (g := g) (h := g) rfl rfl hsg, Itx_c (g := g) (h := g) rfl rfl rfl rfl htx, Iru_c (g := g) (h := g) (r := r) (by omega) hR (fun _ _ _ => rfl) (fun _ _ _ => rfl) rfl rfl rfl rfl rfl rfl rfl rfl hru, Iwd_c (g := g) (h := g) (by omega) rfl rfl rfl rfl rfl rfl hwd, Inw_c (g := g) (h := g) rfl rfl rfl rfl (fun _ _ _ => rfl) hnw, Ist_c (g := g) (h := g) (r := r) hR rfl rfl (fun _ _ _ => rfl) (fun _ _ _ => rfl) rfl rfl rfl rfl (fun _ _ => rfl) (fun _ _ => rfl) (fun _ _ => rfl) rfl rfl rfl hst, Ish_c (g := g) (h := g) rfl rfl rfl rfl rfl hsh, Ila_c (g := g) (h := g) rfl rfl hla⟩
                 · subst hh; rfl
                 · subst hh; rfl)
              | (refine ⟨congrArg (fun z => some (vI z)) ?_, ?_, ?_, ?_⟩
                 · omega
                 · subst hh; exact ⟨⟨hS, hR, h6, hP⟩, Isg_c (g := g) (h := g) rfl rfl hsg, Itx_c (g := g) (h := g) rfl rfl rfl rfl htx, Iru_c (g := g) (h := g) (r := r) (by omega) hR (fun _ _ _ => rfl) (fun _ _ _ => rfl) rfl rfl rfl rfl rfl rfl rfl rfl hru, Iwd_c (g := g) (h := g) (by omega) rfl rfl rfl rfl rfl rfl hwd, Inw_c (g := g) (h := g) rfl rfl rfl rfl (fun _ _ _ => rfl) hnw, Ist_c (g := g) (h := g) (r := r) hR rfl rfl (fun _ _ _ => rfl) (fun _ _ _ => rfl) rfl rfl rfl rfl (fun _ _ => rfl) (fun _ _ => rfl) (fun _ _ => rfl) rfl rfl rfl hst, Ish_c (g := g) (h := g) rfl rfl rfl rfl rfl hsh, Ila_c (g := g) (h := g) rfl rfl hla⟩
                 · subst hh; rfl
                 · subst hh; rfl)
      · refine o_aload_n (n := 36) rfl rfl rfl ?_
        refine o_iload (n := 38) rfl rfl rfl ?_
        refine o_invi (n := 41) rfl rfl rfl rfl rfl rfl rfl rfl rfl rfl (c7_found _ (by omega) (by omega)) ?_
        refine o_iret rfl rfl ?_
        refine q8_of (g := g) (r := r) (fun k hk => by first | rfl | exact gset_kf (isM_ne hk (by decide)) | exact (gset_kf (isM_ne hk (by decide))).trans (gset_kf (isM_ne hk (by decide))) | exact (gset_kf (isM_ne hk (by decide))).trans ((gset_kf (isM_ne hk (by decide))).trans (gset_kf (isM_ne hk (by decide)))) | exact (gset_kf (isM_ne hk (by decide))).trans ((gset_kf (isM_ne hk (by decide))).trans ((gset_kf (isM_ne hk (by decide))).trans (gset_kf (isM_ne hk (by decide)))))) hI (fun h hh hJ => ?_)
        show Ou 118 0 [vR 8 0, vI a, vI f, vI i, vI v, vN] [] h _ _
        obtain ⟨jsg1, jsg2, jsg3⟩ := hJ.2.1
        obtain ⟨jtx1, jtx2, jtx3, jtx4⟩ := hJ.2.2.1
        have jru0 : g 7 0 10 = h 8 0 8 := hJ.2.2.2.1.1.1
        have jru1 := hJ.2.2.2.1.2.1.1
        have jwd0 : g 1 0 1 = h 8 0 14 := hJ.2.2.2.2.1.1.1
        have jwd1 := hJ.2.2.2.2.1.2.1.1
        have jwd2 := hJ.2.2.2.2.1.2.2
        have jnw0 : g 0 0 0 = h 27 0 8 := hJ.2.2.2.2.2.1.1.1
        have jnw1 : g 0 0 1 = h 28 0 8 := hJ.2.2.2.2.2.1.1.2.1
        have jnw2 := hJ.2.2.2.2.2.1.2.1
        have jnw3 := hJ.2.2.2.2.2.1.2.2.1
        have jst0 := hJ.2.2.2.2.2.2.1.1
        have jst1 := hJ.2.2.2.2.2.2.1.2.1
        have jst2 := hJ.2.2.2.2.2.2.1.2.2.1
        have jla0 : g 7 0 13 = h 8 0 4 := hJ.2.2.2.2.2.2.2.2
        have jsh_a : (0 ≤ a ∧ a < 4) → (g 3 a 0 = h 17 0 a ∧ -1 ≤ h 17 0 a ∧ h 17 0 a ≤ 2 ∧ g 3 a 1 = h 18 0 a ∧ 0 ≤ h 18 0 a ∧ h 18 0 a ≤ 60) := fun z => by
          have := hJ.2.2.2.2.2.2.2.1 a z.1 z.2
          exact ⟨this.1.1, this.1.2.1, this.1.2.2, this.2.1.1, this.2.1.2.1, this.2.1.2.2⟩
        refine o_iload_n (n := 1) rfl rfl rfl ?_
        refine o_invsi (n := 4) rfl rfl rfl rfl rfl rfl (c8_isSheet _) ?_
        refine o_ifb_eq (n := 7) (t := 19) rfl rfl rfl (fun k4 => ?_) (fun k4 => ?_)
        · refine o_bipush (n := 21) rfl rfl ?_
          refine o_iret rfl rfl ?_
          first
            | (exfalso; omega; done)
            | (refine ⟨rfl, ?_, ?_, ?_⟩
               · subst hh; exact ⟨⟨hS, hR, h6, hP⟩, Isg_c (g := g) (h := g) rfl rfl hsg, Itx_c (g := g) (h := g) rfl rfl rfl rfl htx, Iru_c (g := g) (h := g) (r := r) (by omega) hR (fun _ _ _ => rfl) (fun _ _ _ => rfl) rfl rfl rfl rfl rfl rfl rfl rfl hru, Iwd_c (g := g) (h := g) (by omega) rfl rfl rfl rfl rfl rfl hwd, Inw_c (g := g) (h := g) rfl rfl rfl rfl (fun _ _ _ => rfl) hnw, Ist_c (g := g) (h := g) (r := r) hR rfl rfl (fun _ _ _ => rfl) (fun _ _ _ => rfl) rfl rfl rfl rfl (fun _ _ => rfl) (fun _ _ => rfl) (fun _ _ => rfl) rfl rfl rfl hst, Ish_c (g := g) (h := g) rfl rfl rfl rfl rfl hsh, Ila_c (g := g) (h := g) rfl rfl hla⟩
               · subst hh; rfl
               · subst hh; rfl)
            | (refine ⟨congrArg (fun z => some (vI z)) ?_, ?_, ?_, ?_⟩
               · omega
               · subst hh; exact ⟨⟨hS, hR, h6, hP⟩, Isg_c (g := g) (h := g) rfl rfl hsg, Itx_c (g := g) (h := g) rfl rfl rfl rfl htx, Iru_c (g := g) (h := g) (r := r) (by omega) hR (fun _ _ _ => rfl) (fun _ _ _ => rfl) rfl rfl rfl rfl rfl rfl rfl rfl hru, Iwd_c (g := g) (h := g) (by omega) rfl rfl rfl rfl rfl rfl hwd, Inw_c (g := g) (h := g) rfl rfl rfl rfl (fun _ _ _ => rfl) hnw, Ist_c (g := g) (h := g) (r := r) hR rfl rfl (fun _ _ _ => rfl) (fun _ _ _ => rfl) rfl rfl rfl rfl (fun _ _ => rfl) (fun _ _ => rfl) (fun _ _ => rfl) rfl rfl rfl hst, Ish_c (g := g) (h := g) rfl rfl rfl rfl rfl hsh, Ila_c (g := g) (h := g) rfl rfl hla⟩
               · subst hh; rfl
               · subst hh; rfl)
        · refine o_iload_n (n := 8) rfl rfl rfl ?_
          refine o_i2l (n := 9) rfl rfl ?_
          refine o_lconst (n := 10) rfl rfl ?_
          refine o_ldc2_w (n := 13) rfl rfl ?_
          refine o_invsi (n := 16) rfl rfl rfl rfl rfl rfl (c8_in _ _ _) ?_
          refine o_ifb_ne (n := 19) (t := 22) rfl rfl rfl (fun k16 => ?_) (fun k16 => ?_)
          · refine o_aload_n (n := 23) rfl rfl rfl ?_
            refine o_iload_n (n := 24) rfl rfl rfl ?_
            refine o_iload_n (n := 25) rfl rfl rfl ?_
            refine o_iload_n (n := 26) rfl rfl rfl ?_
            have hle := lk_eq (g := g) (h := h) (s := a) (f := f) (i := i) (by omega) (by omega) hJ.2.2.2.2.2.2.2.1
            have hlc := c8_lacks (g := h) (r := r) hS a f i (by omega) (by omega) (by omega) (by omega)
            rw [hle] at hlc
            first
              | rw [show lk3 g a f i = 0 by omega, fv_0, fs8_0] at hlc
              | rw [fv_n (show lk3 g a f i ≠ 0 by omega), fs8_n (show lk3 g a f i ≠ 0 by omega)] at hlc
            refine o_invi (n := 29) rfl rfl rfl rfl rfl rfl rfl rfl rfl rfl (hlc) ?_
            refine o_istore_5 (n := 31) rfl rfl rfl ?_
            refine o_iload (n := 33) rfl rfl rfl ?_
            refine o_if_eq (n := 36) (t := 39) rfl rfl rfl (fun k33 => ?_) (fun k33 => ?_)
            · refine o_aload_n (n := 40) rfl rfl rfl ?_
              refine of_8_2 (n := 43) hS rfl rfl ?_
              refine o_bipush (n := 45) rfl rfl ?_
              refine o_iload_n (n := 46) rfl rfl rfl ?_
              refine o_imul (n := 47) rfl rfl (by omega) ?_
              refine o_iload_n (n := 48) rfl rfl rfl ?_
              refine o_iadd (n := 49) rfl rfl (by omega) ?_
              refine o_iload_n (n := 50) rfl rfl rfl ?_
              refine o_iload (n := 52) rfl rfl rfl ?_
              refine o_invsi (n := 55) rfl rfl rfl rfl rfl rfl (c8_cut _ _) ?_
              refine o_iast (n := 56) (L := 240) rfl rfl rfl rfl rfl (by omega) (by omega) ?_
              refine o_iconst (n := 57) rfl rfl ?_
              refine o_iret rfl rfl ?_
              first
                | (exfalso; omega; done)
                | (refine ⟨rfl, ?_, ?_, ?_⟩
                   · subst hh; exact ⟨⟨hS, hR, h6, hP⟩, Isg_c (g := g) (h := g) rfl rfl hsg, Itx_c (g := g) (h := g) rfl rfl rfl rfl htx, Iru_c (g := g) (h := g) (r := r) (by omega) hR (fun _ _ _ => rfl) (fun _ _ _ => rfl) rfl rfl rfl rfl rfl rfl rfl rfl hru, Iwd_c (g := g) (h := g) (by omega) rfl rfl rfl rfl rfl rfl hwd, Inw_c (g := g) (h := g) rfl rfl rfl rfl (fun _ _ _ => rfl) hnw, Ist_c (g := g) (h := g) (r := r) hR rfl rfl (fun _ _ _ => rfl) (fun _ _ _ => rfl) rfl rfl rfl rfl (fun _ _ => rfl) (fun _ _ => rfl) (fun _ _ => rfl) rfl rfl rfl hst, Ish_c (g := gset g 11 a i (ct (g 3 a 0) v)) (h := gset g 19 0 (60 * a + i) (ct (g 3 a 0) v)) rfl rfl rfl rfl (by rw [show g 3 a 0 = f by omega]; rfl) (Ish_put (by omega) (by omega) hsh), Ila_c (g := g) (h := g) rfl rfl hla⟩
                   · subst hh; rfl
                   · subst hh; rfl)
                | (refine ⟨congrArg (fun z => some (vI z)) ?_, ?_, ?_, ?_⟩
                   · omega
                   · subst hh; exact ⟨⟨hS, hR, h6, hP⟩, Isg_c (g := g) (h := g) rfl rfl hsg, Itx_c (g := g) (h := g) rfl rfl rfl rfl htx, Iru_c (g := g) (h := g) (r := r) (by omega) hR (fun _ _ _ => rfl) (fun _ _ _ => rfl) rfl rfl rfl rfl rfl rfl rfl rfl hru, Iwd_c (g := g) (h := g) (by omega) rfl rfl rfl rfl rfl rfl hwd, Inw_c (g := g) (h := g) rfl rfl rfl rfl (fun _ _ _ => rfl) hnw, Ist_c (g := g) (h := g) (r := r) hR rfl rfl (fun _ _ _ => rfl) (fun _ _ _ => rfl) rfl rfl rfl rfl (fun _ _ => rfl) (fun _ _ => rfl) (fun _ _ => rfl) rfl rfl rfl hst, Ish_c (g := gset g 11 a i (ct (g 3 a 0) v)) (h := gset g 19 0 (60 * a + i) (ct (g 3 a 0) v)) rfl rfl rfl rfl (by rw [show g 3 a 0 = f by omega]; rfl) (Ish_put (by omega) (by omega) hsh), Ila_c (g := g) (h := g) rfl rfl hla⟩
                   · subst hh; rfl
                   · subst hh; rfl)
            · refine o_iload (n := 38) rfl rfl rfl ?_
              refine o_iret rfl rfl ?_
              first
                | (exfalso; omega; done)
                | (refine ⟨rfl, ?_, ?_, ?_⟩
                   · subst hh; exact ⟨⟨hS, hR, h6, hP⟩, Isg_c (g := g) (h := g) rfl rfl hsg, Itx_c (g := g) (h := g) rfl rfl rfl rfl htx, Iru_c (g := g) (h := g) (r := r) (by omega) hR (fun _ _ _ => rfl) (fun _ _ _ => rfl) rfl rfl rfl rfl rfl rfl rfl rfl hru, Iwd_c (g := g) (h := g) (by omega) rfl rfl rfl rfl rfl rfl hwd, Inw_c (g := g) (h := g) rfl rfl rfl rfl (fun _ _ _ => rfl) hnw, Ist_c (g := g) (h := g) (r := r) hR rfl rfl (fun _ _ _ => rfl) (fun _ _ _ => rfl) rfl rfl rfl rfl (fun _ _ => rfl) (fun _ _ => rfl) (fun _ _ => rfl) rfl rfl rfl hst, Ish_c (g := g) (h := g) rfl rfl rfl rfl rfl hsh, rfl⟩
                   · subst hh; rfl
                   · subst hh; rfl)
                | (refine ⟨congrArg (fun z => some (vI z)) ?_, ?_, ?_, ?_⟩
                   · omega
                   · subst hh; exact ⟨⟨hS, hR, h6, hP⟩, Isg_c (g := g) (h := g) rfl rfl hsg, Itx_c (g := g) (h := g) rfl rfl rfl rfl htx, Iru_c (g := g) (h := g) (r := r) (by omega) hR (fun _ _ _ => rfl) (fun _ _ _ => rfl) rfl rfl rfl rfl rfl rfl rfl rfl hru, Iwd_c (g := g) (h := g) (by omega) rfl rfl rfl rfl rfl rfl hwd, Inw_c (g := g) (h := g) rfl rfl rfl rfl (fun _ _ _ => rfl) hnw, Ist_c (g := g) (h := g) (r := r) hR rfl rfl (fun _ _ _ => rfl) (fun _ _ _ => rfl) rfl rfl rfl rfl (fun _ _ => rfl) (fun _ _ => rfl) (fun _ _ => rfl) rfl rfl rfl hst, Ish_c (g := g) (h := g) rfl rfl rfl rfl rfl hsh, rfl⟩
                   · subst hh; rfl
                   · subst hh; rfl)
          · refine o_bipush (n := 21) rfl rfl ?_
            refine o_iret rfl rfl ?_
            first
              | (exfalso; omega; done)
              | (refine ⟨rfl, ?_, ?_, ?_⟩
                 · subst hh; exact ⟨⟨hS, hR, h6, hP⟩, Isg_c (g := g) (h := g) rfl rfl hsg, Itx_c (g := g) (h := g) rfl rfl rfl rfl htx, Iru_c (g := g) (h := g) (r := r) (by omega) hR (fun _ _ _ => rfl) (fun _ _ _ => rfl) rfl rfl rfl rfl rfl rfl rfl rfl hru, Iwd_c (g := g) (h := g) (by omega) rfl rfl rfl rfl rfl rfl hwd, Inw_c (g := g) (h := g) rfl rfl rfl rfl (fun _ _ _ => rfl) hnw, Ist_c (g := g) (h := g) (r := r) hR rfl rfl (fun _ _ _ => rfl) (fun _ _ _ => rfl) rfl rfl rfl rfl (fun _ _ => rfl) (fun _ _ => rfl) (fun _ _ => rfl) rfl rfl rfl hst, Ish_c (g := g) (h := g) rfl rfl rfl rfl rfl hsh, Ila_c (g := g) (h := g) rfl rfl hla⟩
                 · subst hh; rfl
                 · subst hh; rfl)
              | (refine ⟨congrArg (fun z => some (vI z)) ?_, ?_, ?_, ?_⟩
                 · omega
                 · subst hh; exact ⟨⟨hS, hR, h6, hP⟩, Isg_c (g := g) (h := g) rfl rfl hsg, Itx_c (g := g) (h := g) rfl rfl rfl rfl htx, Iru_c (g := g) (h := g) (r := r) (by omega) hR (fun _ _ _ => rfl) (fun _ _ _ => rfl) rfl rfl rfl rfl rfl rfl rfl rfl hru, Iwd_c (g := g) (h := g) (by omega) rfl rfl rfl rfl rfl rfl hwd, Inw_c (g := g) (h := g) rfl rfl rfl rfl (fun _ _ _ => rfl) hnw, Ist_c (g := g) (h := g) (r := r) hR rfl rfl (fun _ _ _ => rfl) (fun _ _ _ => rfl) rfl rfl rfl rfl (fun _ _ => rfl) (fun _ _ => rfl) (fun _ _ => rfl) rfl rfl rfl hst, Ish_c (g := g) (h := g) rfl rfl rfl rfl rfl hsh, Ila_c (g := g) (h := g) rfl rfl hla⟩
                 · subst hh; rfl
                 · subst hh; rfl)
    · refine o_bipush (n := 16) rfl rfl ?_
      refine o_iret rfl rfl ?_
      refine q8_of (g := g) (r := r) (fun k hk => by first | rfl | exact gset_kf (isM_ne hk (by decide)) | exact (gset_kf (isM_ne hk (by decide))).trans (gset_kf (isM_ne hk (by decide))) | exact (gset_kf (isM_ne hk (by decide))).trans ((gset_kf (isM_ne hk (by decide))).trans (gset_kf (isM_ne hk (by decide)))) | exact (gset_kf (isM_ne hk (by decide))).trans ((gset_kf (isM_ne hk (by decide))).trans ((gset_kf (isM_ne hk (by decide))).trans (gset_kf (isM_ne hk (by decide)))))) hI (fun h hh hJ => ?_)
      show Ou 118 0 [vR 8 0, vI a, vI f, vI i, vI v, vN] [] h _ _
      obtain ⟨jsg1, jsg2, jsg3⟩ := hJ.2.1
      obtain ⟨jtx1, jtx2, jtx3, jtx4⟩ := hJ.2.2.1
      have jru0 : g 7 0 10 = h 8 0 8 := hJ.2.2.2.1.1.1
      have jru1 := hJ.2.2.2.1.2.1.1
      have jwd0 : g 1 0 1 = h 8 0 14 := hJ.2.2.2.2.1.1.1
      have jwd1 := hJ.2.2.2.2.1.2.1.1
      have jwd2 := hJ.2.2.2.2.1.2.2
      have jnw0 : g 0 0 0 = h 27 0 8 := hJ.2.2.2.2.2.1.1.1
      have jnw1 : g 0 0 1 = h 28 0 8 := hJ.2.2.2.2.2.1.1.2.1
      have jnw2 := hJ.2.2.2.2.2.1.2.1
      have jnw3 := hJ.2.2.2.2.2.1.2.2.1
      have jst0 := hJ.2.2.2.2.2.2.1.1
      have jst1 := hJ.2.2.2.2.2.2.1.2.1
      have jst2 := hJ.2.2.2.2.2.2.1.2.2.1
      have jla0 : g 7 0 13 = h 8 0 4 := hJ.2.2.2.2.2.2.2.2
      have jsh_a : (0 ≤ a ∧ a < 4) → (g 3 a 0 = h 17 0 a ∧ -1 ≤ h 17 0 a ∧ h 17 0 a ≤ 2 ∧ g 3 a 1 = h 18 0 a ∧ 0 ≤ h 18 0 a ∧ h 18 0 a ≤ 60) := fun z => by
        have := hJ.2.2.2.2.2.2.2.1 a z.1 z.2
        exact ⟨this.1.1, this.1.2.1, this.1.2.2, this.2.1.1, this.2.1.2.1, this.2.1.2.2⟩
      refine o_iload_n (n := 1) rfl rfl rfl ?_
      refine o_invsi (n := 4) rfl rfl rfl rfl rfl rfl (c8_isSheet _) ?_
      refine o_ifb_eq (n := 7) (t := 19) rfl rfl rfl (fun k4 => ?_) (fun k4 => ?_)
      · refine o_bipush (n := 21) rfl rfl ?_
        refine o_iret rfl rfl ?_
        first
          | (exfalso; omega; done)
          | (refine ⟨rfl, ?_, ?_, ?_⟩
             · subst hh; exact ⟨⟨hS, hR, h6, hP⟩, Isg_c (g := g) (h := g) rfl rfl hsg, Itx_c (g := g) (h := g) rfl rfl rfl rfl htx, Iru_c (g := g) (h := g) (r := r) (by omega) hR (fun _ _ _ => rfl) (fun _ _ _ => rfl) rfl rfl rfl rfl rfl rfl rfl rfl hru, Iwd_c (g := g) (h := g) (by omega) rfl rfl rfl rfl rfl rfl hwd, Inw_c (g := g) (h := g) rfl rfl rfl rfl (fun _ _ _ => rfl) hnw, Ist_c (g := g) (h := g) (r := r) hR rfl rfl (fun _ _ _ => rfl) (fun _ _ _ => rfl) rfl rfl rfl rfl (fun _ _ => rfl) (fun _ _ => rfl) (fun _ _ => rfl) rfl rfl rfl hst, Ish_c (g := g) (h := g) rfl rfl rfl rfl rfl hsh, Ila_c (g := g) (h := g) rfl rfl hla⟩
             · subst hh; rfl
             · subst hh; rfl)
          | (refine ⟨congrArg (fun z => some (vI z)) ?_, ?_, ?_, ?_⟩
             · omega
             · subst hh; exact ⟨⟨hS, hR, h6, hP⟩, Isg_c (g := g) (h := g) rfl rfl hsg, Itx_c (g := g) (h := g) rfl rfl rfl rfl htx, Iru_c (g := g) (h := g) (r := r) (by omega) hR (fun _ _ _ => rfl) (fun _ _ _ => rfl) rfl rfl rfl rfl rfl rfl rfl rfl hru, Iwd_c (g := g) (h := g) (by omega) rfl rfl rfl rfl rfl rfl hwd, Inw_c (g := g) (h := g) rfl rfl rfl rfl (fun _ _ _ => rfl) hnw, Ist_c (g := g) (h := g) (r := r) hR rfl rfl (fun _ _ _ => rfl) (fun _ _ _ => rfl) rfl rfl rfl rfl (fun _ _ => rfl) (fun _ _ => rfl) (fun _ _ => rfl) rfl rfl rfl hst, Ish_c (g := g) (h := g) rfl rfl rfl rfl rfl hsh, Ila_c (g := g) (h := g) rfl rfl hla⟩
             · subst hh; rfl
             · subst hh; rfl)
      · refine o_iload_n (n := 8) rfl rfl rfl ?_
        refine o_i2l (n := 9) rfl rfl ?_
        refine o_lconst (n := 10) rfl rfl ?_
        refine o_ldc2_w (n := 13) rfl rfl ?_
        refine o_invsi (n := 16) rfl rfl rfl rfl rfl rfl (c8_in _ _ _) ?_
        refine o_ifb_ne (n := 19) (t := 22) rfl rfl rfl (fun k16 => ?_) (fun k16 => ?_)
        · refine o_aload_n (n := 23) rfl rfl rfl ?_
          refine o_iload_n (n := 24) rfl rfl rfl ?_
          refine o_iload_n (n := 25) rfl rfl rfl ?_
          refine o_iload_n (n := 26) rfl rfl rfl ?_
          have hle := lk_eq (g := g) (h := h) (s := a) (f := f) (i := i) (by omega) (by omega) hJ.2.2.2.2.2.2.2.1
          have hlc := c8_lacks (g := h) (r := r) hS a f i (by omega) (by omega) (by omega) (by omega)
          rw [hle] at hlc
          first
            | rw [show lk3 g a f i = 0 by omega, fv_0, fs8_0] at hlc
            | rw [fv_n (show lk3 g a f i ≠ 0 by omega), fs8_n (show lk3 g a f i ≠ 0 by omega)] at hlc
          refine o_invi (n := 29) rfl rfl rfl rfl rfl rfl rfl rfl rfl rfl (hlc) ?_
          refine o_istore_5 (n := 31) rfl rfl rfl ?_
          refine o_iload (n := 33) rfl rfl rfl ?_
          refine o_if_eq (n := 36) (t := 39) rfl rfl rfl (fun k33 => ?_) (fun k33 => ?_)
          · refine o_aload_n (n := 40) rfl rfl rfl ?_
            refine of_8_2 (n := 43) hS rfl rfl ?_
            refine o_bipush (n := 45) rfl rfl ?_
            refine o_iload_n (n := 46) rfl rfl rfl ?_
            refine o_imul (n := 47) rfl rfl (by omega) ?_
            refine o_iload_n (n := 48) rfl rfl rfl ?_
            refine o_iadd (n := 49) rfl rfl (by omega) ?_
            refine o_iload_n (n := 50) rfl rfl rfl ?_
            refine o_iload (n := 52) rfl rfl rfl ?_
            refine o_invsi (n := 55) rfl rfl rfl rfl rfl rfl (c8_cut _ _) ?_
            refine o_iast (n := 56) (L := 240) rfl rfl rfl rfl rfl (by omega) (by omega) ?_
            refine o_iconst (n := 57) rfl rfl ?_
            refine o_iret rfl rfl ?_
            first
              | (exfalso; omega; done)
              | (refine ⟨rfl, ?_, ?_, ?_⟩
                 · subst hh; exact ⟨⟨hS, hR, h6, hP⟩, Isg_c (g := g) (h := g) rfl rfl hsg, Itx_c (g := g) (h := g) rfl rfl rfl rfl htx, Iru_c (g := g) (h := g) (r := r) (by omega) hR (fun _ _ _ => rfl) (fun _ _ _ => rfl) rfl rfl rfl rfl rfl rfl rfl rfl hru, Iwd_c (g := g) (h := g) (by omega) rfl rfl rfl rfl rfl rfl hwd, Inw_c (g := g) (h := g) rfl rfl rfl rfl (fun _ _ _ => rfl) hnw, Ist_c (g := g) (h := g) (r := r) hR rfl rfl (fun _ _ _ => rfl) (fun _ _ _ => rfl) rfl rfl rfl rfl (fun _ _ => rfl) (fun _ _ => rfl) (fun _ _ => rfl) rfl rfl rfl hst, Ish_c (g := gset g 11 a i (ct (g 3 a 0) v)) (h := gset g 19 0 (60 * a + i) (ct (g 3 a 0) v)) rfl rfl rfl rfl (by rw [show g 3 a 0 = f by omega]; rfl) (Ish_put (by omega) (by omega) hsh), Ila_c (g := g) (h := g) rfl rfl hla⟩
                 · subst hh; rfl
                 · subst hh; rfl)
              | (refine ⟨congrArg (fun z => some (vI z)) ?_, ?_, ?_, ?_⟩
                 · omega
                 · subst hh; exact ⟨⟨hS, hR, h6, hP⟩, Isg_c (g := g) (h := g) rfl rfl hsg, Itx_c (g := g) (h := g) rfl rfl rfl rfl htx, Iru_c (g := g) (h := g) (r := r) (by omega) hR (fun _ _ _ => rfl) (fun _ _ _ => rfl) rfl rfl rfl rfl rfl rfl rfl rfl hru, Iwd_c (g := g) (h := g) (by omega) rfl rfl rfl rfl rfl rfl hwd, Inw_c (g := g) (h := g) rfl rfl rfl rfl (fun _ _ _ => rfl) hnw, Ist_c (g := g) (h := g) (r := r) hR rfl rfl (fun _ _ _ => rfl) (fun _ _ _ => rfl) rfl rfl rfl rfl (fun _ _ => rfl) (fun _ _ => rfl) (fun _ _ => rfl) rfl rfl rfl hst, Ish_c (g := gset g 11 a i (ct (g 3 a 0) v)) (h := gset g 19 0 (60 * a + i) (ct (g 3 a 0) v)) rfl rfl rfl rfl (by rw [show g 3 a 0 = f by omega]; rfl) (Ish_put (by omega) (by omega) hsh), Ila_c (g := g) (h := g) rfl rfl hla⟩
                 · subst hh; rfl
                 · subst hh; rfl)
          · refine o_iload (n := 38) rfl rfl rfl ?_
            refine o_iret rfl rfl ?_
            first
              | (exfalso; omega; done)
              | (refine ⟨rfl, ?_, ?_, ?_⟩
                 · subst hh; exact ⟨⟨hS, hR, h6, hP⟩, Isg_c (g := g) (h := g) rfl rfl hsg, Itx_c (g := g) (h := g) rfl rfl rfl rfl htx, Iru_c (g := g) (h := g) (r := r) (by omega) hR (fun _ _ _ => rfl) (fun _ _ _ => rfl) rfl rfl rfl rfl rfl rfl rfl rfl hru, Iwd_c (g := g) (h := g) (by omega) rfl rfl rfl rfl rfl rfl hwd, Inw_c (g := g) (h := g) rfl rfl rfl rfl (fun _ _ _ => rfl) hnw, Ist_c (g := g) (h := g) (r := r) hR rfl rfl (fun _ _ _ => rfl) (fun _ _ _ => rfl) rfl rfl rfl rfl (fun _ _ => rfl) (fun _ _ => rfl) (fun _ _ => rfl) rfl rfl rfl hst, Ish_c (g := g) (h := g) rfl rfl rfl rfl rfl hsh, rfl⟩
                 · subst hh; rfl
                 · subst hh; rfl)
              | (refine ⟨congrArg (fun z => some (vI z)) ?_, ?_, ?_, ?_⟩
                 · omega
                 · subst hh; exact ⟨⟨hS, hR, h6, hP⟩, Isg_c (g := g) (h := g) rfl rfl hsg, Itx_c (g := g) (h := g) rfl rfl rfl rfl htx, Iru_c (g := g) (h := g) (r := r) (by omega) hR (fun _ _ _ => rfl) (fun _ _ _ => rfl) rfl rfl rfl rfl rfl rfl rfl rfl hru, Iwd_c (g := g) (h := g) (by omega) rfl rfl rfl rfl rfl rfl hwd, Inw_c (g := g) (h := g) rfl rfl rfl rfl (fun _ _ _ => rfl) hnw, Ist_c (g := g) (h := g) (r := r) hR rfl rfl (fun _ _ _ => rfl) (fun _ _ _ => rfl) rfl rfl rfl rfl (fun _ _ => rfl) (fun _ _ => rfl) (fun _ _ => rfl) rfl rfl rfl hst, Ish_c (g := g) (h := g) rfl rfl rfl rfl rfl hsh, rfl⟩
                 · subst hh; rfl
                 · subst hh; rfl)
        · refine o_bipush (n := 21) rfl rfl ?_
          refine o_iret rfl rfl ?_
          first
            | (exfalso; omega; done)
            | (refine ⟨rfl, ?_, ?_, ?_⟩
               · subst hh; exact ⟨⟨hS, hR, h6, hP⟩, Isg_c (g := g) (h := g) rfl rfl hsg, Itx_c (g := g) (h := g) rfl rfl rfl rfl htx, Iru_c (g := g) (h := g) (r := r) (by omega) hR (fun _ _ _ => rfl) (fun _ _ _ => rfl) rfl rfl rfl rfl rfl rfl rfl rfl hru, Iwd_c (g := g) (h := g) (by omega) rfl rfl rfl rfl rfl rfl hwd, Inw_c (g := g) (h := g) rfl rfl rfl rfl (fun _ _ _ => rfl) hnw, Ist_c (g := g) (h := g) (r := r) hR rfl rfl (fun _ _ _ => rfl) (fun _ _ _ => rfl) rfl rfl rfl rfl (fun _ _ => rfl) (fun _ _ => rfl) (fun _ _ => rfl) rfl rfl rfl hst, Ish_c (g := g) (h := g) rfl rfl rfl rfl rfl hsh, Ila_c (g := g) (h := g) rfl rfl hla⟩
               · subst hh; rfl
               · subst hh; rfl)
            | (refine ⟨congrArg (fun z => some (vI z)) ?_, ?_, ?_, ?_⟩
               · omega
               · subst hh; exact ⟨⟨hS, hR, h6, hP⟩, Isg_c (g := g) (h := g) rfl rfl hsg, Itx_c (g := g) (h := g) rfl rfl rfl rfl htx, Iru_c (g := g) (h := g) (r := r) (by omega) hR (fun _ _ _ => rfl) (fun _ _ _ => rfl) rfl rfl rfl rfl rfl rfl rfl rfl hru, Iwd_c (g := g) (h := g) (by omega) rfl rfl rfl rfl rfl rfl hwd, Inw_c (g := g) (h := g) rfl rfl rfl rfl (fun _ _ _ => rfl) hnw, Ist_c (g := g) (h := g) (r := r) hR rfl rfl (fun _ _ _ => rfl) (fun _ _ _ => rfl) rfl rfl rfl rfl (fun _ _ => rfl) (fun _ _ => rfl) (fun _ _ => rfl) rfl rfl rfl hst, Ish_c (g := g) (h := g) rfl rfl rfl rfl rfl hsh, Ila_c (g := g) (h := g) rfl rfl hla⟩
               · subst hh; rfl
               · subst hh; rfl)
theorem p_get (a : Int) (f : Int) (i : Int) : Pr 76 119 [vI a, vI f, vI i] := by
  intro c g r hc0 hc1 hI
  have hI' := hI
  obtain ⟨⟨hS, hR, h6, hP⟩, hsg, htx, hru, hwd, hnw, hst, hsh, hla⟩ := hI'
  show Ou 76 0 [vR 7 0, vI a, vI f, vI i, vN] [] g r _
  obtain ⟨sg1, sg2, sg3⟩ := hI.2.1
  obtain ⟨tx1, tx2, tx3, tx4⟩ := hI.2.2.1
  have ru0 : g 7 0 10 = g 8 0 8 := hI.2.2.2.1.1.1
  have ru1 := hI.2.2.2.1.2.1.1
  have wd0 : g 1 0 1 = g 8 0 14 := hI.2.2.2.2.1.1.1
  have wd1 := hI.2.2.2.2.1.2.1.1
  have wd2 := hI.2.2.2.2.1.2.2
  have nw0 : g 0 0 0 = g 27 0 8 := hI.2.2.2.2.2.1.1.1
  have nw1 : g 0 0 1 = g 28 0 8 := hI.2.2.2.2.2.1.1.2.1
  have nw2 := hI.2.2.2.2.2.1.2.1
  have nw3 := hI.2.2.2.2.2.1.2.2.1
  have st0 := hI.2.2.2.2.2.2.1.1
  have st1 := hI.2.2.2.2.2.2.1.2.1
  have st2 := hI.2.2.2.2.2.2.1.2.2.1
  have la0 : g 7 0 13 = g 8 0 4 := hI.2.2.2.2.2.2.2.2
  have sh_a : (0 ≤ a ∧ a < 4) → (g 3 a 0 = g 17 0 a ∧ -1 ≤ g 17 0 a ∧ g 17 0 a ≤ 2 ∧ g 3 a 1 = g 18 0 a ∧ 0 ≤ g 18 0 a ∧ g 18 0 a ≤ 60) := fun z => by
    have := hsh a z.1 z.2
    exact ⟨this.1.1, this.1.2.1, this.1.2.2, this.2.1.1, this.2.1.2.1, this.2.1.2.2⟩
  refine o_iload_n (n := 1) rfl rfl rfl ?_
  refine o_invsi (n := 4) rfl rfl rfl rfl rfl rfl (c7_isSheet _) ?_
  refine o_ifb_eq (n := 7) (t := 14) rfl rfl rfl (fun q4 => ?_) (fun q4 => ?_)
  · refine o_ldc_w (n := 17) rfl rfl ?_
    refine o_iret rfl rfl ?_
    refine q8_of (g := g) (r := r) (fun k hk => by first | rfl | exact gset_kf (isM_ne hk (by decide)) | exact (gset_kf (isM_ne hk (by decide))).trans (gset_kf (isM_ne hk (by decide))) | exact (gset_kf (isM_ne hk (by decide))).trans ((gset_kf (isM_ne hk (by decide))).trans (gset_kf (isM_ne hk (by decide)))) | exact (gset_kf (isM_ne hk (by decide))).trans ((gset_kf (isM_ne hk (by decide))).trans ((gset_kf (isM_ne hk (by decide))).trans (gset_kf (isM_ne hk (by decide)))))) hI (fun h hh hJ => ?_)
    show Ou 119 0 [vR 8 0, vI a, vI f, vI i] [] h _ _
    obtain ⟨jsg1, jsg2, jsg3⟩ := hJ.2.1
    obtain ⟨jtx1, jtx2, jtx3, jtx4⟩ := hJ.2.2.1
    have jru0 : g 7 0 10 = h 8 0 8 := hJ.2.2.2.1.1.1
    have jru1 := hJ.2.2.2.1.2.1.1
    have jwd0 : g 1 0 1 = h 8 0 14 := hJ.2.2.2.2.1.1.1
    have jwd1 := hJ.2.2.2.2.1.2.1.1
    have jwd2 := hJ.2.2.2.2.1.2.2
    have jnw0 : g 0 0 0 = h 27 0 8 := hJ.2.2.2.2.2.1.1.1
    have jnw1 : g 0 0 1 = h 28 0 8 := hJ.2.2.2.2.2.1.1.2.1
    have jnw2 := hJ.2.2.2.2.2.1.2.1
    have jnw3 := hJ.2.2.2.2.2.1.2.2.1
    have jst0 := hJ.2.2.2.2.2.2.1.1
    have jst1 := hJ.2.2.2.2.2.2.1.2.1
    have jst2 := hJ.2.2.2.2.2.2.1.2.2.1
    have jla0 : g 7 0 13 = h 8 0 4 := hJ.2.2.2.2.2.2.2.2
    have jsh_a : (0 ≤ a ∧ a < 4) → (g 3 a 0 = h 17 0 a ∧ -1 ≤ h 17 0 a ∧ h 17 0 a ≤ 2 ∧ g 3 a 1 = h 18 0 a ∧ 0 ≤ h 18 0 a ∧ h 18 0 a ≤ 60) := fun z => by
      have := hJ.2.2.2.2.2.2.2.1 a z.1 z.2
      exact ⟨this.1.1, this.1.2.1, this.1.2.2, this.2.1.1, this.2.1.2.1, this.2.1.2.2⟩
    refine o_iload_n (n := 1) rfl rfl rfl ?_
    refine o_invsi (n := 4) rfl rfl rfl rfl rfl rfl (c8_isSheet _) ?_
    refine o_ifb_eq (n := 7) (t := 29) rfl rfl rfl (fun k4 => ?_) (fun k4 => ?_)
    · refine o_ldc (n := 31) rfl rfl ?_
      refine o_iret rfl rfl ?_
      first
        | (exfalso; omega; done)
        | (refine ⟨rfl, ?_, ?_, ?_⟩
           · subst hh; exact ⟨⟨hS, hR, h6, hP⟩, Isg_c (g := g) (h := g) rfl rfl hsg, Itx_c (g := g) (h := g) rfl rfl rfl rfl htx, Iru_c (g := g) (h := g) (r := r) (by omega) hR (fun _ _ _ => rfl) (fun _ _ _ => rfl) rfl rfl rfl rfl rfl rfl rfl rfl hru, Iwd_c (g := g) (h := g) (by omega) rfl rfl rfl rfl rfl rfl hwd, Inw_c (g := g) (h := g) rfl rfl rfl rfl (fun _ _ _ => rfl) hnw, Ist_c (g := g) (h := g) (r := r) hR rfl rfl (fun _ _ _ => rfl) (fun _ _ _ => rfl) rfl rfl rfl rfl (fun _ _ => rfl) (fun _ _ => rfl) (fun _ _ => rfl) rfl rfl rfl hst, Ish_c (g := g) (h := g) rfl rfl rfl rfl rfl hsh, Ila_c (g := g) (h := g) rfl rfl hla⟩
           · subst hh; rfl
           · subst hh; rfl)
        | (refine ⟨rfl, ?_, ?_, ?_⟩
           · subst hh; exact ⟨⟨hS, hR, h6, hP⟩, Isg_c (g := g) (h := g) rfl rfl hsg, Itx_c (g := g) (h := g) rfl rfl rfl rfl htx, Iru_c (g := g) (h := g) (r := r) (by omega) hR (fun _ _ _ => rfl) (fun _ _ _ => rfl) rfl rfl rfl rfl rfl rfl rfl rfl hru, Iwd_c (g := g) (h := g) (by omega) rfl rfl rfl rfl rfl rfl hwd, Inw_c (g := g) (h := g) rfl rfl rfl rfl (fun _ _ _ => rfl) hnw, Ist_c (g := g) (h := g) (r := r) hR rfl rfl (fun _ _ _ => rfl) (fun _ _ _ => rfl) rfl rfl rfl rfl (fun _ _ => rfl) (fun _ _ => rfl) (fun _ _ => rfl) rfl rfl rfl hst, Ish_c (g := g) (h := g) rfl rfl rfl rfl rfl hsh, rfl⟩
           · subst hh; rfl
           · subst hh; rfl)
    · refine o_iload_n (n := 8) rfl rfl rfl ?_
      refine o_i2l (n := 9) rfl rfl ?_
      refine o_lconst (n := 10) rfl rfl ?_
      refine o_ldc2_w (n := 13) rfl rfl ?_
      refine o_invsi (n := 16) rfl rfl rfl rfl rfl rfl (c8_in _ _ _) ?_
      refine o_ifb_eq (n := 19) (t := 29) rfl rfl rfl (fun k16 => ?_) (fun k16 => ?_)
      · refine o_ldc (n := 31) rfl rfl ?_
        refine o_iret rfl rfl ?_
        first
          | (exfalso; omega; done)
          | (refine ⟨rfl, ?_, ?_, ?_⟩
             · subst hh; exact ⟨⟨hS, hR, h6, hP⟩, Isg_c (g := g) (h := g) rfl rfl hsg, Itx_c (g := g) (h := g) rfl rfl rfl rfl htx, Iru_c (g := g) (h := g) (r := r) (by omega) hR (fun _ _ _ => rfl) (fun _ _ _ => rfl) rfl rfl rfl rfl rfl rfl rfl rfl hru, Iwd_c (g := g) (h := g) (by omega) rfl rfl rfl rfl rfl rfl hwd, Inw_c (g := g) (h := g) rfl rfl rfl rfl (fun _ _ _ => rfl) hnw, Ist_c (g := g) (h := g) (r := r) hR rfl rfl (fun _ _ _ => rfl) (fun _ _ _ => rfl) rfl rfl rfl rfl (fun _ _ => rfl) (fun _ _ => rfl) (fun _ _ => rfl) rfl rfl rfl hst, Ish_c (g := g) (h := g) rfl rfl rfl rfl rfl hsh, Ila_c (g := g) (h := g) rfl rfl hla⟩
             · subst hh; rfl
             · subst hh; rfl)
          | (refine ⟨rfl, ?_, ?_, ?_⟩
             · subst hh; exact ⟨⟨hS, hR, h6, hP⟩, Isg_c (g := g) (h := g) rfl rfl hsg, Itx_c (g := g) (h := g) rfl rfl rfl rfl htx, Iru_c (g := g) (h := g) (r := r) (by omega) hR (fun _ _ _ => rfl) (fun _ _ _ => rfl) rfl rfl rfl rfl rfl rfl rfl rfl hru, Iwd_c (g := g) (h := g) (by omega) rfl rfl rfl rfl rfl rfl hwd, Inw_c (g := g) (h := g) rfl rfl rfl rfl (fun _ _ _ => rfl) hnw, Ist_c (g := g) (h := g) (r := r) hR rfl rfl (fun _ _ _ => rfl) (fun _ _ _ => rfl) rfl rfl rfl rfl (fun _ _ => rfl) (fun _ _ => rfl) (fun _ _ => rfl) rfl rfl rfl hst, Ish_c (g := g) (h := g) rfl rfl rfl rfl rfl hsh, rfl⟩
             · subst hh; rfl
             · subst hh; rfl)
      · refine o_aload_n (n := 20) rfl rfl rfl ?_
        refine o_iload_n (n := 21) rfl rfl rfl ?_
        refine o_iload_n (n := 22) rfl rfl rfl ?_
        refine o_iload_n (n := 23) rfl rfl rfl ?_
        have hle := lk_eq (g := g) (h := h) (s := a) (f := f) (i := i) (by omega) (by omega) hJ.2.2.2.2.2.2.2.1
        have hlc := c8_lacks (g := h) (r := r) hS a f i (by omega) (by omega) (by omega) (by omega)
        rw [hle] at hlc
        first
          | rw [show lk3 g a f i = 0 by omega, fv_0, fs8_0] at hlc
          | rw [fv_n (show lk3 g a f i ≠ 0 by omega), fs8_n (show lk3 g a f i ≠ 0 by omega)] at hlc
        refine o_invi (n := 26) rfl rfl rfl rfl rfl rfl rfl rfl rfl rfl (hlc) ?_
        refine o_if_eq (n := 29) (t := 32) rfl rfl rfl (fun k26 => ?_) (fun k26 => ?_)
        · refine o_aload_n (n := 33) rfl rfl rfl ?_
          refine of_8_2 (n := 36) hS rfl rfl ?_
          refine o_bipush (n := 38) rfl rfl ?_
          refine o_iload_n (n := 39) rfl rfl rfl ?_
          refine o_imul (n := 40) rfl rfl (by omega) ?_
          refine o_iload_n (n := 41) rfl rfl rfl ?_
          refine o_iadd (n := 42) rfl rfl (by omega) ?_
          refine o_iald (n := 43) (L := 240) rfl rfl rfl rfl rfl (by omega) (by omega) ?_
          refine o_iret rfl rfl ?_
          first
            | (exfalso; omega; done)
            | (refine ⟨?_, ?_, ?_, ?_⟩
               · rw [← hh, (hsh a (by omega) (by omega)).2.2 i (by omega) (by omega)]
               · subst hh; exact ⟨⟨hS, hR, h6, hP⟩, Isg_c (g := g) (h := g) rfl rfl hsg, Itx_c (g := g) (h := g) rfl rfl rfl rfl htx, Iru_c (g := g) (h := g) (r := r) (by omega) hR (fun _ _ _ => rfl) (fun _ _ _ => rfl) rfl rfl rfl rfl rfl rfl rfl rfl hru, Iwd_c (g := g) (h := g) (by omega) rfl rfl rfl rfl rfl rfl hwd, Inw_c (g := g) (h := g) rfl rfl rfl rfl (fun _ _ _ => rfl) hnw, Ist_c (g := g) (h := g) (r := r) hR rfl rfl (fun _ _ _ => rfl) (fun _ _ _ => rfl) rfl rfl rfl rfl (fun _ _ => rfl) (fun _ _ => rfl) (fun _ _ => rfl) rfl rfl rfl hst, Ish_c (g := g) (h := g) rfl rfl rfl rfl rfl hsh, Ila_c (g := g) (h := g) rfl rfl hla⟩
               · subst hh; rfl
               · subst hh; rfl)
        · refine o_ldc (n := 31) rfl rfl ?_
          refine o_iret rfl rfl ?_
          first
            | (exfalso; omega; done)
            | (refine ⟨rfl, ?_, ?_, ?_⟩
               · subst hh; exact ⟨⟨hS, hR, h6, hP⟩, Isg_c (g := g) (h := g) rfl rfl hsg, Itx_c (g := g) (h := g) rfl rfl rfl rfl htx, Iru_c (g := g) (h := g) (r := r) (by omega) hR (fun _ _ _ => rfl) (fun _ _ _ => rfl) rfl rfl rfl rfl rfl rfl rfl rfl hru, Iwd_c (g := g) (h := g) (by omega) rfl rfl rfl rfl rfl rfl hwd, Inw_c (g := g) (h := g) rfl rfl rfl rfl (fun _ _ _ => rfl) hnw, Ist_c (g := g) (h := g) (r := r) hR rfl rfl (fun _ _ _ => rfl) (fun _ _ _ => rfl) rfl rfl rfl rfl (fun _ _ => rfl) (fun _ _ => rfl) (fun _ _ => rfl) rfl rfl rfl hst, Ish_c (g := g) (h := g) rfl rfl rfl rfl rfl hsh, Ila_c (g := g) (h := g) rfl rfl hla⟩
               · subst hh; rfl
               · subst hh; rfl)
            | (refine ⟨rfl, ?_, ?_, ?_⟩
               · subst hh; exact ⟨⟨hS, hR, h6, hP⟩, Isg_c (g := g) (h := g) rfl rfl hsg, Itx_c (g := g) (h := g) rfl rfl rfl rfl htx, Iru_c (g := g) (h := g) (r := r) (by omega) hR (fun _ _ _ => rfl) (fun _ _ _ => rfl) rfl rfl rfl rfl rfl rfl rfl rfl hru, Iwd_c (g := g) (h := g) (by omega) rfl rfl rfl rfl rfl rfl hwd, Inw_c (g := g) (h := g) rfl rfl rfl rfl (fun _ _ _ => rfl) hnw, Ist_c (g := g) (h := g) (r := r) hR rfl rfl (fun _ _ _ => rfl) (fun _ _ _ => rfl) rfl rfl rfl rfl (fun _ _ => rfl) (fun _ _ => rfl) (fun _ _ => rfl) rfl rfl rfl hst, Ish_c (g := g) (h := g) rfl rfl rfl rfl rfl hsh, rfl⟩
               · subst hh; rfl
               · subst hh; rfl)
  · refine o_iload_n (n := 8) rfl rfl rfl ?_
    refine o_invsi (n := 11) rfl rfl rfl rfl rfl rfl (c7_isForm _) ?_
    refine o_ifb_ne (n := 14) (t := 18) rfl rfl rfl (fun q11 => ?_) (fun q11 => ?_)
    · refine o_aload_n (n := 19) rfl rfl rfl ?_
      refine of_7_4 (n := 22) hS rfl rfl ?_
      refine o_iload_n (n := 23) rfl rfl rfl ?_
      refine o_shr (n := 24) hS rfl rfl (by omega) (by omega) ?_
      refine o_iload_n (n := 25) rfl rfl rfl ?_
      refine o_iload_n (n := 26) rfl rfl rfl ?_
      have hlk := lk3_r (g := g) (s := a) (f := f) (i := i)
      refine o_invi (n := 29) rfl rfl rfl rfl rfl rfl rfl rfl rfl (ok_3 (by omega) (by omega)) (c3_findingAt a f i (by omega) (by omega)) ?_
      refine o_istore_4 (n := 31) rfl rfl rfl ?_
      refine o_iload (n := 33) rfl rfl rfl ?_
      refine o_if_eq (n := 36) (t := 46) rfl rfl rfl (fun q33 => ?_) (fun q33 => ?_)
      · refine o_aload_n (n := 47) rfl rfl rfl ?_
        refine of_7_4 (n := 50) hS rfl rfl ?_
        refine o_iload_n (n := 51) rfl rfl rfl ?_
        refine o_shr (n := 52) hS rfl rfl (by omega) (by omega) ?_
        refine of_3_2 (n := 55) hS rfl rfl (by omega) (by omega) ?_
        refine o_iload_n (n := 56) rfl rfl rfl ?_
        refine o_iald (n := 57) (L := 60) rfl rfl (ok_11 (by omega) (by omega)) rfl rfl (by omega) (by omega) ?_
        refine o_iret rfl rfl ?_
        refine q8_of (g := g) (r := r) (fun k hk => by first | rfl | exact gset_kf (isM_ne hk (by decide)) | exact (gset_kf (isM_ne hk (by decide))).trans (gset_kf (isM_ne hk (by decide))) | exact (gset_kf (isM_ne hk (by decide))).trans ((gset_kf (isM_ne hk (by decide))).trans (gset_kf (isM_ne hk (by decide)))) | exact (gset_kf (isM_ne hk (by decide))).trans ((gset_kf (isM_ne hk (by decide))).trans ((gset_kf (isM_ne hk (by decide))).trans (gset_kf (isM_ne hk (by decide)))))) hI (fun h hh hJ => ?_)
        show Ou 119 0 [vR 8 0, vI a, vI f, vI i] [] h _ _
        obtain ⟨jsg1, jsg2, jsg3⟩ := hJ.2.1
        obtain ⟨jtx1, jtx2, jtx3, jtx4⟩ := hJ.2.2.1
        have jru0 : g 7 0 10 = h 8 0 8 := hJ.2.2.2.1.1.1
        have jru1 := hJ.2.2.2.1.2.1.1
        have jwd0 : g 1 0 1 = h 8 0 14 := hJ.2.2.2.2.1.1.1
        have jwd1 := hJ.2.2.2.2.1.2.1.1
        have jwd2 := hJ.2.2.2.2.1.2.2
        have jnw0 : g 0 0 0 = h 27 0 8 := hJ.2.2.2.2.2.1.1.1
        have jnw1 : g 0 0 1 = h 28 0 8 := hJ.2.2.2.2.2.1.1.2.1
        have jnw2 := hJ.2.2.2.2.2.1.2.1
        have jnw3 := hJ.2.2.2.2.2.1.2.2.1
        have jst0 := hJ.2.2.2.2.2.2.1.1
        have jst1 := hJ.2.2.2.2.2.2.1.2.1
        have jst2 := hJ.2.2.2.2.2.2.1.2.2.1
        have jla0 : g 7 0 13 = h 8 0 4 := hJ.2.2.2.2.2.2.2.2
        have jsh_a : (0 ≤ a ∧ a < 4) → (g 3 a 0 = h 17 0 a ∧ -1 ≤ h 17 0 a ∧ h 17 0 a ≤ 2 ∧ g 3 a 1 = h 18 0 a ∧ 0 ≤ h 18 0 a ∧ h 18 0 a ≤ 60) := fun z => by
          have := hJ.2.2.2.2.2.2.2.1 a z.1 z.2
          exact ⟨this.1.1, this.1.2.1, this.1.2.2, this.2.1.1, this.2.1.2.1, this.2.1.2.2⟩
        refine o_iload_n (n := 1) rfl rfl rfl ?_
        refine o_invsi (n := 4) rfl rfl rfl rfl rfl rfl (c8_isSheet _) ?_
        refine o_ifb_eq (n := 7) (t := 29) rfl rfl rfl (fun k4 => ?_) (fun k4 => ?_)
        · refine o_ldc (n := 31) rfl rfl ?_
          refine o_iret rfl rfl ?_
          first
            | (exfalso; omega; done)
            | (refine ⟨rfl, ?_, ?_, ?_⟩
               · subst hh; exact ⟨⟨hS, hR, h6, hP⟩, Isg_c (g := g) (h := g) rfl rfl hsg, Itx_c (g := g) (h := g) rfl rfl rfl rfl htx, Iru_c (g := g) (h := g) (r := r) (by omega) hR (fun _ _ _ => rfl) (fun _ _ _ => rfl) rfl rfl rfl rfl rfl rfl rfl rfl hru, Iwd_c (g := g) (h := g) (by omega) rfl rfl rfl rfl rfl rfl hwd, Inw_c (g := g) (h := g) rfl rfl rfl rfl (fun _ _ _ => rfl) hnw, Ist_c (g := g) (h := g) (r := r) hR rfl rfl (fun _ _ _ => rfl) (fun _ _ _ => rfl) rfl rfl rfl rfl (fun _ _ => rfl) (fun _ _ => rfl) (fun _ _ => rfl) rfl rfl rfl hst, Ish_c (g := g) (h := g) rfl rfl rfl rfl rfl hsh, Ila_c (g := g) (h := g) rfl rfl hla⟩
               · subst hh; rfl
               · subst hh; rfl)
            | (refine ⟨rfl, ?_, ?_, ?_⟩
               · subst hh; exact ⟨⟨hS, hR, h6, hP⟩, Isg_c (g := g) (h := g) rfl rfl hsg, Itx_c (g := g) (h := g) rfl rfl rfl rfl htx, Iru_c (g := g) (h := g) (r := r) (by omega) hR (fun _ _ _ => rfl) (fun _ _ _ => rfl) rfl rfl rfl rfl rfl rfl rfl rfl hru, Iwd_c (g := g) (h := g) (by omega) rfl rfl rfl rfl rfl rfl hwd, Inw_c (g := g) (h := g) rfl rfl rfl rfl (fun _ _ _ => rfl) hnw, Ist_c (g := g) (h := g) (r := r) hR rfl rfl (fun _ _ _ => rfl) (fun _ _ _ => rfl) rfl rfl rfl rfl (fun _ _ => rfl) (fun _ _ => rfl) (fun _ _ => rfl) rfl rfl rfl hst, Ish_c (g := g) (h := g) rfl rfl rfl rfl rfl hsh, rfl⟩
               · subst hh; rfl
               · subst hh; rfl)
        · refine o_iload_n (n := 8) rfl rfl rfl ?_
          refine o_i2l (n := 9) rfl rfl ?_
          refine o_lconst (n := 10) rfl rfl ?_
          refine o_ldc2_w (n := 13) rfl rfl ?_
          refine o_invsi (n := 16) rfl rfl rfl rfl rfl rfl (c8_in _ _ _) ?_
          refine o_ifb_eq (n := 19) (t := 29) rfl rfl rfl (fun k16 => ?_) (fun k16 => ?_)
          · refine o_ldc (n := 31) rfl rfl ?_
            refine o_iret rfl rfl ?_
            first
              | (exfalso; omega; done)
              | (refine ⟨rfl, ?_, ?_, ?_⟩
                 · subst hh; exact ⟨⟨hS, hR, h6, hP⟩, Isg_c (g := g) (h := g) rfl rfl hsg, Itx_c (g := g) (h := g) rfl rfl rfl rfl htx, Iru_c (g := g) (h := g) (r := r) (by omega) hR (fun _ _ _ => rfl) (fun _ _ _ => rfl) rfl rfl rfl rfl rfl rfl rfl rfl hru, Iwd_c (g := g) (h := g) (by omega) rfl rfl rfl rfl rfl rfl hwd, Inw_c (g := g) (h := g) rfl rfl rfl rfl (fun _ _ _ => rfl) hnw, Ist_c (g := g) (h := g) (r := r) hR rfl rfl (fun _ _ _ => rfl) (fun _ _ _ => rfl) rfl rfl rfl rfl (fun _ _ => rfl) (fun _ _ => rfl) (fun _ _ => rfl) rfl rfl rfl hst, Ish_c (g := g) (h := g) rfl rfl rfl rfl rfl hsh, Ila_c (g := g) (h := g) rfl rfl hla⟩
                 · subst hh; rfl
                 · subst hh; rfl)
              | (refine ⟨rfl, ?_, ?_, ?_⟩
                 · subst hh; exact ⟨⟨hS, hR, h6, hP⟩, Isg_c (g := g) (h := g) rfl rfl hsg, Itx_c (g := g) (h := g) rfl rfl rfl rfl htx, Iru_c (g := g) (h := g) (r := r) (by omega) hR (fun _ _ _ => rfl) (fun _ _ _ => rfl) rfl rfl rfl rfl rfl rfl rfl rfl hru, Iwd_c (g := g) (h := g) (by omega) rfl rfl rfl rfl rfl rfl hwd, Inw_c (g := g) (h := g) rfl rfl rfl rfl (fun _ _ _ => rfl) hnw, Ist_c (g := g) (h := g) (r := r) hR rfl rfl (fun _ _ _ => rfl) (fun _ _ _ => rfl) rfl rfl rfl rfl (fun _ _ => rfl) (fun _ _ => rfl) (fun _ _ => rfl) rfl rfl rfl hst, Ish_c (g := g) (h := g) rfl rfl rfl rfl rfl hsh, rfl⟩
                 · subst hh; rfl
                 · subst hh; rfl)
          · refine o_aload_n (n := 20) rfl rfl rfl ?_
            refine o_iload_n (n := 21) rfl rfl rfl ?_
            refine o_iload_n (n := 22) rfl rfl rfl ?_
            refine o_iload_n (n := 23) rfl rfl rfl ?_
            have hle := lk_eq (g := g) (h := h) (s := a) (f := f) (i := i) (by omega) (by omega) hJ.2.2.2.2.2.2.2.1
            have hlc := c8_lacks (g := h) (r := r) hS a f i (by omega) (by omega) (by omega) (by omega)
            rw [hle] at hlc
            first
              | rw [show lk3 g a f i = 0 by omega, fv_0, fs8_0] at hlc
              | rw [fv_n (show lk3 g a f i ≠ 0 by omega), fs8_n (show lk3 g a f i ≠ 0 by omega)] at hlc
            refine o_invi (n := 26) rfl rfl rfl rfl rfl rfl rfl rfl rfl rfl (hlc) ?_
            refine o_if_eq (n := 29) (t := 32) rfl rfl rfl (fun k26 => ?_) (fun k26 => ?_)
            · refine o_aload_n (n := 33) rfl rfl rfl ?_
              refine of_8_2 (n := 36) hS rfl rfl ?_
              refine o_bipush (n := 38) rfl rfl ?_
              refine o_iload_n (n := 39) rfl rfl rfl ?_
              refine o_imul (n := 40) rfl rfl (by omega) ?_
              refine o_iload_n (n := 41) rfl rfl rfl ?_
              refine o_iadd (n := 42) rfl rfl (by omega) ?_
              refine o_iald (n := 43) (L := 240) rfl rfl rfl rfl rfl (by omega) (by omega) ?_
              refine o_iret rfl rfl ?_
              first
                | (exfalso; omega; done)
                | (refine ⟨?_, ?_, ?_, ?_⟩
                   · rw [← hh, (hsh a (by omega) (by omega)).2.2 i (by omega) (by omega)]
                   · subst hh; exact ⟨⟨hS, hR, h6, hP⟩, Isg_c (g := g) (h := g) rfl rfl hsg, Itx_c (g := g) (h := g) rfl rfl rfl rfl htx, Iru_c (g := g) (h := g) (r := r) (by omega) hR (fun _ _ _ => rfl) (fun _ _ _ => rfl) rfl rfl rfl rfl rfl rfl rfl rfl hru, Iwd_c (g := g) (h := g) (by omega) rfl rfl rfl rfl rfl rfl hwd, Inw_c (g := g) (h := g) rfl rfl rfl rfl (fun _ _ _ => rfl) hnw, Ist_c (g := g) (h := g) (r := r) hR rfl rfl (fun _ _ _ => rfl) (fun _ _ _ => rfl) rfl rfl rfl rfl (fun _ _ => rfl) (fun _ _ => rfl) (fun _ _ => rfl) rfl rfl rfl hst, Ish_c (g := g) (h := g) rfl rfl rfl rfl rfl hsh, Ila_c (g := g) (h := g) rfl rfl hla⟩
                   · subst hh; rfl
                   · subst hh; rfl)
            · refine o_ldc (n := 31) rfl rfl ?_
              refine o_iret rfl rfl ?_
              first
                | (exfalso; omega; done)
                | (refine ⟨rfl, ?_, ?_, ?_⟩
                   · subst hh; exact ⟨⟨hS, hR, h6, hP⟩, Isg_c (g := g) (h := g) rfl rfl hsg, Itx_c (g := g) (h := g) rfl rfl rfl rfl htx, Iru_c (g := g) (h := g) (r := r) (by omega) hR (fun _ _ _ => rfl) (fun _ _ _ => rfl) rfl rfl rfl rfl rfl rfl rfl rfl hru, Iwd_c (g := g) (h := g) (by omega) rfl rfl rfl rfl rfl rfl hwd, Inw_c (g := g) (h := g) rfl rfl rfl rfl (fun _ _ _ => rfl) hnw, Ist_c (g := g) (h := g) (r := r) hR rfl rfl (fun _ _ _ => rfl) (fun _ _ _ => rfl) rfl rfl rfl rfl (fun _ _ => rfl) (fun _ _ => rfl) (fun _ _ => rfl) rfl rfl rfl hst, Ish_c (g := g) (h := g) rfl rfl rfl rfl rfl hsh, Ila_c (g := g) (h := g) rfl rfl hla⟩
                   · subst hh; rfl
                   · subst hh; rfl)
                | (refine ⟨rfl, ?_, ?_, ?_⟩
                   · subst hh; exact ⟨⟨hS, hR, h6, hP⟩, Isg_c (g := g) (h := g) rfl rfl hsg, Itx_c (g := g) (h := g) rfl rfl rfl rfl htx, Iru_c (g := g) (h := g) (r := r) (by omega) hR (fun _ _ _ => rfl) (fun _ _ _ => rfl) rfl rfl rfl rfl rfl rfl rfl rfl hru, Iwd_c (g := g) (h := g) (by omega) rfl rfl rfl rfl rfl rfl hwd, Inw_c (g := g) (h := g) rfl rfl rfl rfl (fun _ _ _ => rfl) hnw, Ist_c (g := g) (h := g) (r := r) hR rfl rfl (fun _ _ _ => rfl) (fun _ _ _ => rfl) rfl rfl rfl rfl (fun _ _ => rfl) (fun _ _ => rfl) (fun _ _ => rfl) rfl rfl rfl hst, Ish_c (g := g) (h := g) rfl rfl rfl rfl rfl hsh, rfl⟩
                   · subst hh; rfl
                   · subst hh; rfl)
      · refine o_aload_n (n := 37) rfl rfl rfl ?_
        refine o_iload (n := 39) rfl rfl rfl ?_
        refine o_puti (n := 42) rfl rfl rfl rfl rfl ?_
        refine o_ldc_w (n := 45) rfl rfl ?_
        refine o_iret rfl rfl ?_
        refine q8_of (g := g) (r := r) (fun k hk => by first | rfl | exact gset_kf (isM_ne hk (by decide)) | exact (gset_kf (isM_ne hk (by decide))).trans (gset_kf (isM_ne hk (by decide))) | exact (gset_kf (isM_ne hk (by decide))).trans ((gset_kf (isM_ne hk (by decide))).trans (gset_kf (isM_ne hk (by decide)))) | exact (gset_kf (isM_ne hk (by decide))).trans ((gset_kf (isM_ne hk (by decide))).trans ((gset_kf (isM_ne hk (by decide))).trans (gset_kf (isM_ne hk (by decide)))))) hI (fun h hh hJ => ?_)
        show Ou 119 0 [vR 8 0, vI a, vI f, vI i] [] h _ _
        obtain ⟨jsg1, jsg2, jsg3⟩ := hJ.2.1
        obtain ⟨jtx1, jtx2, jtx3, jtx4⟩ := hJ.2.2.1
        have jru0 : g 7 0 10 = h 8 0 8 := hJ.2.2.2.1.1.1
        have jru1 := hJ.2.2.2.1.2.1.1
        have jwd0 : g 1 0 1 = h 8 0 14 := hJ.2.2.2.2.1.1.1
        have jwd1 := hJ.2.2.2.2.1.2.1.1
        have jwd2 := hJ.2.2.2.2.1.2.2
        have jnw0 : g 0 0 0 = h 27 0 8 := hJ.2.2.2.2.2.1.1.1
        have jnw1 : g 0 0 1 = h 28 0 8 := hJ.2.2.2.2.2.1.1.2.1
        have jnw2 := hJ.2.2.2.2.2.1.2.1
        have jnw3 := hJ.2.2.2.2.2.1.2.2.1
        have jst0 := hJ.2.2.2.2.2.2.1.1
        have jst1 := hJ.2.2.2.2.2.2.1.2.1
        have jst2 := hJ.2.2.2.2.2.2.1.2.2.1
        have jla0 : g 7 0 13 = h 8 0 4 := hJ.2.2.2.2.2.2.2.2
        have jsh_a : (0 ≤ a ∧ a < 4) → (g 3 a 0 = h 17 0 a ∧ -1 ≤ h 17 0 a ∧ h 17 0 a ≤ 2 ∧ g 3 a 1 = h 18 0 a ∧ 0 ≤ h 18 0 a ∧ h 18 0 a ≤ 60) := fun z => by
          have := hJ.2.2.2.2.2.2.2.1 a z.1 z.2
          exact ⟨this.1.1, this.1.2.1, this.1.2.2, this.2.1.1, this.2.1.2.1, this.2.1.2.2⟩
        refine o_iload_n (n := 1) rfl rfl rfl ?_
        refine o_invsi (n := 4) rfl rfl rfl rfl rfl rfl (c8_isSheet _) ?_
        refine o_ifb_eq (n := 7) (t := 29) rfl rfl rfl (fun k4 => ?_) (fun k4 => ?_)
        · refine o_ldc (n := 31) rfl rfl ?_
          refine o_iret rfl rfl ?_
          first
            | (exfalso; omega; done)
            | (refine ⟨rfl, ?_, ?_, ?_⟩
               · subst hh; exact ⟨⟨hS, hR, h6, hP⟩, Isg_c (g := g) (h := g) rfl rfl hsg, Itx_c (g := g) (h := g) rfl rfl rfl rfl htx, Iru_c (g := g) (h := g) (r := r) (by omega) hR (fun _ _ _ => rfl) (fun _ _ _ => rfl) rfl rfl rfl rfl rfl rfl rfl rfl hru, Iwd_c (g := g) (h := g) (by omega) rfl rfl rfl rfl rfl rfl hwd, Inw_c (g := g) (h := g) rfl rfl rfl rfl (fun _ _ _ => rfl) hnw, Ist_c (g := g) (h := g) (r := r) hR rfl rfl (fun _ _ _ => rfl) (fun _ _ _ => rfl) rfl rfl rfl rfl (fun _ _ => rfl) (fun _ _ => rfl) (fun _ _ => rfl) rfl rfl rfl hst, Ish_c (g := g) (h := g) rfl rfl rfl rfl rfl hsh, Ila_c (g := g) (h := g) rfl rfl hla⟩
               · subst hh; rfl
               · subst hh; rfl)
            | (refine ⟨rfl, ?_, ?_, ?_⟩
               · subst hh; exact ⟨⟨hS, hR, h6, hP⟩, Isg_c (g := g) (h := g) rfl rfl hsg, Itx_c (g := g) (h := g) rfl rfl rfl rfl htx, Iru_c (g := g) (h := g) (r := r) (by omega) hR (fun _ _ _ => rfl) (fun _ _ _ => rfl) rfl rfl rfl rfl rfl rfl rfl rfl hru, Iwd_c (g := g) (h := g) (by omega) rfl rfl rfl rfl rfl rfl hwd, Inw_c (g := g) (h := g) rfl rfl rfl rfl (fun _ _ _ => rfl) hnw, Ist_c (g := g) (h := g) (r := r) hR rfl rfl (fun _ _ _ => rfl) (fun _ _ _ => rfl) rfl rfl rfl rfl (fun _ _ => rfl) (fun _ _ => rfl) (fun _ _ => rfl) rfl rfl rfl hst, Ish_c (g := g) (h := g) rfl rfl rfl rfl rfl hsh, rfl⟩
               · subst hh; rfl
               · subst hh; rfl)
        · refine o_iload_n (n := 8) rfl rfl rfl ?_
          refine o_i2l (n := 9) rfl rfl ?_
          refine o_lconst (n := 10) rfl rfl ?_
          refine o_ldc2_w (n := 13) rfl rfl ?_
          refine o_invsi (n := 16) rfl rfl rfl rfl rfl rfl (c8_in _ _ _) ?_
          refine o_ifb_eq (n := 19) (t := 29) rfl rfl rfl (fun k16 => ?_) (fun k16 => ?_)
          · refine o_ldc (n := 31) rfl rfl ?_
            refine o_iret rfl rfl ?_
            first
              | (exfalso; omega; done)
              | (refine ⟨rfl, ?_, ?_, ?_⟩
                 · subst hh; exact ⟨⟨hS, hR, h6, hP⟩, Isg_c (g := g) (h := g) rfl rfl hsg, Itx_c (g := g) (h := g) rfl rfl rfl rfl htx, Iru_c (g := g) (h := g) (r := r) (by omega) hR (fun _ _ _ => rfl) (fun _ _ _ => rfl) rfl rfl rfl rfl rfl rfl rfl rfl hru, Iwd_c (g := g) (h := g) (by omega) rfl rfl rfl rfl rfl rfl hwd, Inw_c (g := g) (h := g) rfl rfl rfl rfl (fun _ _ _ => rfl) hnw, Ist_c (g := g) (h := g) (r := r) hR rfl rfl (fun _ _ _ => rfl) (fun _ _ _ => rfl) rfl rfl rfl rfl (fun _ _ => rfl) (fun _ _ => rfl) (fun _ _ => rfl) rfl rfl rfl hst, Ish_c (g := g) (h := g) rfl rfl rfl rfl rfl hsh, Ila_c (g := g) (h := g) rfl rfl hla⟩
                 · subst hh; rfl
                 · subst hh; rfl)
              | (refine ⟨rfl, ?_, ?_, ?_⟩
                 · subst hh; exact ⟨⟨hS, hR, h6, hP⟩, Isg_c (g := g) (h := g) rfl rfl hsg, Itx_c (g := g) (h := g) rfl rfl rfl rfl htx, Iru_c (g := g) (h := g) (r := r) (by omega) hR (fun _ _ _ => rfl) (fun _ _ _ => rfl) rfl rfl rfl rfl rfl rfl rfl rfl hru, Iwd_c (g := g) (h := g) (by omega) rfl rfl rfl rfl rfl rfl hwd, Inw_c (g := g) (h := g) rfl rfl rfl rfl (fun _ _ _ => rfl) hnw, Ist_c (g := g) (h := g) (r := r) hR rfl rfl (fun _ _ _ => rfl) (fun _ _ _ => rfl) rfl rfl rfl rfl (fun _ _ => rfl) (fun _ _ => rfl) (fun _ _ => rfl) rfl rfl rfl hst, Ish_c (g := g) (h := g) rfl rfl rfl rfl rfl hsh, rfl⟩
                 · subst hh; rfl
                 · subst hh; rfl)
          · refine o_aload_n (n := 20) rfl rfl rfl ?_
            refine o_iload_n (n := 21) rfl rfl rfl ?_
            refine o_iload_n (n := 22) rfl rfl rfl ?_
            refine o_iload_n (n := 23) rfl rfl rfl ?_
            have hle := lk_eq (g := g) (h := h) (s := a) (f := f) (i := i) (by omega) (by omega) hJ.2.2.2.2.2.2.2.1
            have hlc := c8_lacks (g := h) (r := r) hS a f i (by omega) (by omega) (by omega) (by omega)
            rw [hle] at hlc
            first
              | rw [show lk3 g a f i = 0 by omega, fv_0, fs8_0] at hlc
              | rw [fv_n (show lk3 g a f i ≠ 0 by omega), fs8_n (show lk3 g a f i ≠ 0 by omega)] at hlc
            refine o_invi (n := 26) rfl rfl rfl rfl rfl rfl rfl rfl rfl rfl (hlc) ?_
            refine o_if_eq (n := 29) (t := 32) rfl rfl rfl (fun k26 => ?_) (fun k26 => ?_)
            · refine o_aload_n (n := 33) rfl rfl rfl ?_
              refine of_8_2 (n := 36) hS rfl rfl ?_
              refine o_bipush (n := 38) rfl rfl ?_
              refine o_iload_n (n := 39) rfl rfl rfl ?_
              refine o_imul (n := 40) rfl rfl (by omega) ?_
              refine o_iload_n (n := 41) rfl rfl rfl ?_
              refine o_iadd (n := 42) rfl rfl (by omega) ?_
              refine o_iald (n := 43) (L := 240) rfl rfl rfl rfl rfl (by omega) (by omega) ?_
              refine o_iret rfl rfl ?_
              first
                | (exfalso; omega; done)
                | (refine ⟨?_, ?_, ?_, ?_⟩
                   · rw [← hh, (hsh a (by omega) (by omega)).2.2 i (by omega) (by omega)]
                   · subst hh; exact ⟨⟨hS, hR, h6, hP⟩, Isg_c (g := g) (h := g) rfl rfl hsg, Itx_c (g := g) (h := g) rfl rfl rfl rfl htx, Iru_c (g := g) (h := g) (r := r) (by omega) hR (fun _ _ _ => rfl) (fun _ _ _ => rfl) rfl rfl rfl rfl rfl rfl rfl rfl hru, Iwd_c (g := g) (h := g) (by omega) rfl rfl rfl rfl rfl rfl hwd, Inw_c (g := g) (h := g) rfl rfl rfl rfl (fun _ _ _ => rfl) hnw, Ist_c (g := g) (h := g) (r := r) hR rfl rfl (fun _ _ _ => rfl) (fun _ _ _ => rfl) rfl rfl rfl rfl (fun _ _ => rfl) (fun _ _ => rfl) (fun _ _ => rfl) rfl rfl rfl hst, Ish_c (g := g) (h := g) rfl rfl rfl rfl rfl hsh, Ila_c (g := g) (h := g) rfl rfl hla⟩
                   · subst hh; rfl
                   · subst hh; rfl)
            · refine o_ldc (n := 31) rfl rfl ?_
              refine o_iret rfl rfl ?_
              first
                | (exfalso; omega; done)
                | (refine ⟨rfl, ?_, ?_, ?_⟩
                   · subst hh; exact ⟨⟨hS, hR, h6, hP⟩, Isg_c (g := g) (h := g) rfl rfl hsg, Itx_c (g := g) (h := g) rfl rfl rfl rfl htx, Iru_c (g := g) (h := g) (r := r) (by omega) hR (fun _ _ _ => rfl) (fun _ _ _ => rfl) rfl rfl rfl rfl rfl rfl rfl rfl hru, Iwd_c (g := g) (h := g) (by omega) rfl rfl rfl rfl rfl rfl hwd, Inw_c (g := g) (h := g) rfl rfl rfl rfl (fun _ _ _ => rfl) hnw, Ist_c (g := g) (h := g) (r := r) hR rfl rfl (fun _ _ _ => rfl) (fun _ _ _ => rfl) rfl rfl rfl rfl (fun _ _ => rfl) (fun _ _ => rfl) (fun _ _ => rfl) rfl rfl rfl hst, Ish_c (g := g) (h := g) rfl rfl rfl rfl rfl hsh, Ila_c (g := g) (h := g) rfl rfl hla⟩
                   · subst hh; rfl
                   · subst hh; rfl)
                | (refine ⟨rfl, ?_, ?_, ?_⟩
                   · subst hh; exact ⟨⟨hS, hR, h6, hP⟩, Isg_c (g := g) (h := g) rfl rfl hsg, Itx_c (g := g) (h := g) rfl rfl rfl rfl htx, Iru_c (g := g) (h := g) (r := r) (by omega) hR (fun _ _ _ => rfl) (fun _ _ _ => rfl) rfl rfl rfl rfl rfl rfl rfl rfl hru, Iwd_c (g := g) (h := g) (by omega) rfl rfl rfl rfl rfl rfl hwd, Inw_c (g := g) (h := g) rfl rfl rfl rfl (fun _ _ _ => rfl) hnw, Ist_c (g := g) (h := g) (r := r) hR rfl rfl (fun _ _ _ => rfl) (fun _ _ _ => rfl) rfl rfl rfl rfl (fun _ _ => rfl) (fun _ _ => rfl) (fun _ _ => rfl) rfl rfl rfl hst, Ish_c (g := g) (h := g) rfl rfl rfl rfl rfl hsh, rfl⟩
                   · subst hh; rfl
                   · subst hh; rfl)
    · refine o_ldc_w (n := 17) rfl rfl ?_
      refine o_iret rfl rfl ?_
      refine q8_of (g := g) (r := r) (fun k hk => by first | rfl | exact gset_kf (isM_ne hk (by decide)) | exact (gset_kf (isM_ne hk (by decide))).trans (gset_kf (isM_ne hk (by decide))) | exact (gset_kf (isM_ne hk (by decide))).trans ((gset_kf (isM_ne hk (by decide))).trans (gset_kf (isM_ne hk (by decide)))) | exact (gset_kf (isM_ne hk (by decide))).trans ((gset_kf (isM_ne hk (by decide))).trans ((gset_kf (isM_ne hk (by decide))).trans (gset_kf (isM_ne hk (by decide)))))) hI (fun h hh hJ => ?_)
      show Ou 119 0 [vR 8 0, vI a, vI f, vI i] [] h _ _
      obtain ⟨jsg1, jsg2, jsg3⟩ := hJ.2.1
      obtain ⟨jtx1, jtx2, jtx3, jtx4⟩ := hJ.2.2.1
      have jru0 : g 7 0 10 = h 8 0 8 := hJ.2.2.2.1.1.1
      have jru1 := hJ.2.2.2.1.2.1.1
      have jwd0 : g 1 0 1 = h 8 0 14 := hJ.2.2.2.2.1.1.1
      have jwd1 := hJ.2.2.2.2.1.2.1.1
      have jwd2 := hJ.2.2.2.2.1.2.2
      have jnw0 : g 0 0 0 = h 27 0 8 := hJ.2.2.2.2.2.1.1.1
      have jnw1 : g 0 0 1 = h 28 0 8 := hJ.2.2.2.2.2.1.1.2.1
      have jnw2 := hJ.2.2.2.2.2.1.2.1
      have jnw3 := hJ.2.2.2.2.2.1.2.2.1
      have jst0 := hJ.2.2.2.2.2.2.1.1
      have jst1 := hJ.2.2.2.2.2.2.1.2.1
      have jst2 := hJ.2.2.2.2.2.2.1.2.2.1
      have jla0 : g 7 0 13 = h 8 0 4 := hJ.2.2.2.2.2.2.2.2
      have jsh_a : (0 ≤ a ∧ a < 4) → (g 3 a 0 = h 17 0 a ∧ -1 ≤ h 17 0 a ∧ h 17 0 a ≤ 2 ∧ g 3 a 1 = h 18 0 a ∧ 0 ≤ h 18 0 a ∧ h 18 0 a ≤ 60) := fun z => by
        have := hJ.2.2.2.2.2.2.2.1 a z.1 z.2
        exact ⟨this.1.1, this.1.2.1, this.1.2.2, this.2.1.1, this.2.1.2.1, this.2.1.2.2⟩
      refine o_iload_n (n := 1) rfl rfl rfl ?_
      refine o_invsi (n := 4) rfl rfl rfl rfl rfl rfl (c8_isSheet _) ?_
      refine o_ifb_eq (n := 7) (t := 29) rfl rfl rfl (fun k4 => ?_) (fun k4 => ?_)
      · refine o_ldc (n := 31) rfl rfl ?_
        refine o_iret rfl rfl ?_
        first
          | (exfalso; omega; done)
          | (refine ⟨rfl, ?_, ?_, ?_⟩
             · subst hh; exact ⟨⟨hS, hR, h6, hP⟩, Isg_c (g := g) (h := g) rfl rfl hsg, Itx_c (g := g) (h := g) rfl rfl rfl rfl htx, Iru_c (g := g) (h := g) (r := r) (by omega) hR (fun _ _ _ => rfl) (fun _ _ _ => rfl) rfl rfl rfl rfl rfl rfl rfl rfl hru, Iwd_c (g := g) (h := g) (by omega) rfl rfl rfl rfl rfl rfl hwd, Inw_c (g := g) (h := g) rfl rfl rfl rfl (fun _ _ _ => rfl) hnw, Ist_c (g := g) (h := g) (r := r) hR rfl rfl (fun _ _ _ => rfl) (fun _ _ _ => rfl) rfl rfl rfl rfl (fun _ _ => rfl) (fun _ _ => rfl) (fun _ _ => rfl) rfl rfl rfl hst, Ish_c (g := g) (h := g) rfl rfl rfl rfl rfl hsh, Ila_c (g := g) (h := g) rfl rfl hla⟩
             · subst hh; rfl
             · subst hh; rfl)
          | (refine ⟨rfl, ?_, ?_, ?_⟩
             · subst hh; exact ⟨⟨hS, hR, h6, hP⟩, Isg_c (g := g) (h := g) rfl rfl hsg, Itx_c (g := g) (h := g) rfl rfl rfl rfl htx, Iru_c (g := g) (h := g) (r := r) (by omega) hR (fun _ _ _ => rfl) (fun _ _ _ => rfl) rfl rfl rfl rfl rfl rfl rfl rfl hru, Iwd_c (g := g) (h := g) (by omega) rfl rfl rfl rfl rfl rfl hwd, Inw_c (g := g) (h := g) rfl rfl rfl rfl (fun _ _ _ => rfl) hnw, Ist_c (g := g) (h := g) (r := r) hR rfl rfl (fun _ _ _ => rfl) (fun _ _ _ => rfl) rfl rfl rfl rfl (fun _ _ => rfl) (fun _ _ => rfl) (fun _ _ => rfl) rfl rfl rfl hst, Ish_c (g := g) (h := g) rfl rfl rfl rfl rfl hsh, rfl⟩
             · subst hh; rfl
             · subst hh; rfl)
      · refine o_iload_n (n := 8) rfl rfl rfl ?_
        refine o_i2l (n := 9) rfl rfl ?_
        refine o_lconst (n := 10) rfl rfl ?_
        refine o_ldc2_w (n := 13) rfl rfl ?_
        refine o_invsi (n := 16) rfl rfl rfl rfl rfl rfl (c8_in _ _ _) ?_
        refine o_ifb_eq (n := 19) (t := 29) rfl rfl rfl (fun k16 => ?_) (fun k16 => ?_)
        · refine o_ldc (n := 31) rfl rfl ?_
          refine o_iret rfl rfl ?_
          first
            | (exfalso; omega; done)
            | (refine ⟨rfl, ?_, ?_, ?_⟩
               · subst hh; exact ⟨⟨hS, hR, h6, hP⟩, Isg_c (g := g) (h := g) rfl rfl hsg, Itx_c (g := g) (h := g) rfl rfl rfl rfl htx, Iru_c (g := g) (h := g) (r := r) (by omega) hR (fun _ _ _ => rfl) (fun _ _ _ => rfl) rfl rfl rfl rfl rfl rfl rfl rfl hru, Iwd_c (g := g) (h := g) (by omega) rfl rfl rfl rfl rfl rfl hwd, Inw_c (g := g) (h := g) rfl rfl rfl rfl (fun _ _ _ => rfl) hnw, Ist_c (g := g) (h := g) (r := r) hR rfl rfl (fun _ _ _ => rfl) (fun _ _ _ => rfl) rfl rfl rfl rfl (fun _ _ => rfl) (fun _ _ => rfl) (fun _ _ => rfl) rfl rfl rfl hst, Ish_c (g := g) (h := g) rfl rfl rfl rfl rfl hsh, Ila_c (g := g) (h := g) rfl rfl hla⟩
               · subst hh; rfl
               · subst hh; rfl)
            | (refine ⟨rfl, ?_, ?_, ?_⟩
               · subst hh; exact ⟨⟨hS, hR, h6, hP⟩, Isg_c (g := g) (h := g) rfl rfl hsg, Itx_c (g := g) (h := g) rfl rfl rfl rfl htx, Iru_c (g := g) (h := g) (r := r) (by omega) hR (fun _ _ _ => rfl) (fun _ _ _ => rfl) rfl rfl rfl rfl rfl rfl rfl rfl hru, Iwd_c (g := g) (h := g) (by omega) rfl rfl rfl rfl rfl rfl hwd, Inw_c (g := g) (h := g) rfl rfl rfl rfl (fun _ _ _ => rfl) hnw, Ist_c (g := g) (h := g) (r := r) hR rfl rfl (fun _ _ _ => rfl) (fun _ _ _ => rfl) rfl rfl rfl rfl (fun _ _ => rfl) (fun _ _ => rfl) (fun _ _ => rfl) rfl rfl rfl hst, Ish_c (g := g) (h := g) rfl rfl rfl rfl rfl hsh, rfl⟩
               · subst hh; rfl
               · subst hh; rfl)
        · refine o_aload_n (n := 20) rfl rfl rfl ?_
          refine o_iload_n (n := 21) rfl rfl rfl ?_
          refine o_iload_n (n := 22) rfl rfl rfl ?_
          refine o_iload_n (n := 23) rfl rfl rfl ?_
          have hle := lk_eq (g := g) (h := h) (s := a) (f := f) (i := i) (by omega) (by omega) hJ.2.2.2.2.2.2.2.1
          have hlc := c8_lacks (g := h) (r := r) hS a f i (by omega) (by omega) (by omega) (by omega)
          rw [hle] at hlc
          first
            | rw [show lk3 g a f i = 0 by omega, fv_0, fs8_0] at hlc
            | rw [fv_n (show lk3 g a f i ≠ 0 by omega), fs8_n (show lk3 g a f i ≠ 0 by omega)] at hlc
          refine o_invi (n := 26) rfl rfl rfl rfl rfl rfl rfl rfl rfl rfl (hlc) ?_
          refine o_if_eq (n := 29) (t := 32) rfl rfl rfl (fun k26 => ?_) (fun k26 => ?_)
          · refine o_aload_n (n := 33) rfl rfl rfl ?_
            refine of_8_2 (n := 36) hS rfl rfl ?_
            refine o_bipush (n := 38) rfl rfl ?_
            refine o_iload_n (n := 39) rfl rfl rfl ?_
            refine o_imul (n := 40) rfl rfl (by omega) ?_
            refine o_iload_n (n := 41) rfl rfl rfl ?_
            refine o_iadd (n := 42) rfl rfl (by omega) ?_
            refine o_iald (n := 43) (L := 240) rfl rfl rfl rfl rfl (by omega) (by omega) ?_
            refine o_iret rfl rfl ?_
            first
              | (exfalso; omega; done)
              | (refine ⟨?_, ?_, ?_, ?_⟩
                 · rw [← hh, (hsh a (by omega) (by omega)).2.2 i (by omega) (by omega)]
                 · subst hh; exact ⟨⟨hS, hR, h6, hP⟩, Isg_c (g := g) (h := g) rfl rfl hsg, Itx_c (g := g) (h := g) rfl rfl rfl rfl htx, Iru_c (g := g) (h := g) (r := r) (by omega) hR (fun _ _ _ => rfl) (fun _ _ _ => rfl) rfl rfl rfl rfl rfl rfl rfl rfl hru, Iwd_c (g := g) (h := g) (by omega) rfl rfl rfl rfl rfl rfl hwd, Inw_c (g := g) (h := g) rfl rfl rfl rfl (fun _ _ _ => rfl) hnw, Ist_c (g := g) (h := g) (r := r) hR rfl rfl (fun _ _ _ => rfl) (fun _ _ _ => rfl) rfl rfl rfl rfl (fun _ _ => rfl) (fun _ _ => rfl) (fun _ _ => rfl) rfl rfl rfl hst, Ish_c (g := g) (h := g) rfl rfl rfl rfl rfl hsh, Ila_c (g := g) (h := g) rfl rfl hla⟩
                 · subst hh; rfl
                 · subst hh; rfl)
          · refine o_ldc (n := 31) rfl rfl ?_
            refine o_iret rfl rfl ?_
            first
              | (exfalso; omega; done)
              | (refine ⟨rfl, ?_, ?_, ?_⟩
                 · subst hh; exact ⟨⟨hS, hR, h6, hP⟩, Isg_c (g := g) (h := g) rfl rfl hsg, Itx_c (g := g) (h := g) rfl rfl rfl rfl htx, Iru_c (g := g) (h := g) (r := r) (by omega) hR (fun _ _ _ => rfl) (fun _ _ _ => rfl) rfl rfl rfl rfl rfl rfl rfl rfl hru, Iwd_c (g := g) (h := g) (by omega) rfl rfl rfl rfl rfl rfl hwd, Inw_c (g := g) (h := g) rfl rfl rfl rfl (fun _ _ _ => rfl) hnw, Ist_c (g := g) (h := g) (r := r) hR rfl rfl (fun _ _ _ => rfl) (fun _ _ _ => rfl) rfl rfl rfl rfl (fun _ _ => rfl) (fun _ _ => rfl) (fun _ _ => rfl) rfl rfl rfl hst, Ish_c (g := g) (h := g) rfl rfl rfl rfl rfl hsh, Ila_c (g := g) (h := g) rfl rfl hla⟩
                 · subst hh; rfl
                 · subst hh; rfl)
              | (refine ⟨rfl, ?_, ?_, ?_⟩
                 · subst hh; exact ⟨⟨hS, hR, h6, hP⟩, Isg_c (g := g) (h := g) rfl rfl hsg, Itx_c (g := g) (h := g) rfl rfl rfl rfl htx, Iru_c (g := g) (h := g) (r := r) (by omega) hR (fun _ _ _ => rfl) (fun _ _ _ => rfl) rfl rfl rfl rfl rfl rfl rfl rfl hru, Iwd_c (g := g) (h := g) (by omega) rfl rfl rfl rfl rfl rfl hwd, Inw_c (g := g) (h := g) rfl rfl rfl rfl (fun _ _ _ => rfl) hnw, Ist_c (g := g) (h := g) (r := r) hR rfl rfl (fun _ _ _ => rfl) (fun _ _ _ => rfl) rfl rfl rfl rfl (fun _ _ => rfl) (fun _ _ => rfl) (fun _ _ => rfl) rfl rfl rfl hst, Ish_c (g := g) (h := g) rfl rfl rfl rfl rfl hsh, rfl⟩
                 · subst hh; rfl
                 · subst hh; rfl)
