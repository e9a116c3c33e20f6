/-! like answers of both: the simple calls. Written by wip/gen/gen27.py -/
theorem FB_z {ρ n : Int} {E : Int → Int → Int → Int} {m : Int} {L : Int → Int → Int} {W : Int → Int → Int → Int} {st : Int} : FB ρ n E m 0 L W st = 0 := by
  unfold FB
  by_cases h : sd ρ n E m
  · rw [cif_t h]; rfl
  · rw [cif_f h]
theorem Ist_z {g h r : GI} (i : Ist g h r) (hr : h 8 0 8 = 0) : h 8 0 19 = 0 := by
  obtain ⟨u, v, w, x⟩ := i
  by_cases e : h 8 0 19 = 0
  · exact e
  · obtain ⟨_, _, _, z1, z2⟩ := x 0 (by omega) (by omega)
    unfold FB8 at z2
    rw [hr, FB_z] at z2
    exact absurd z2 z1
theorem Ist_n {g h r : GI} (a : g 7 0 11 = 0) (b : h 8 0 19 = 0) : Ist g h r := ⟨by omega, by omega, by omega, fun k k0 k1 => by omega⟩
theorem p_signs (a : Int) : Pr 45 121 [vI a] := by
  intro c g r hc0 hc1 hI
  have hI' := hI
  obtain ⟨⟨hS, hR, h6, hP⟩, hsg, htx, hru, hwd, hnw, hst, hsh, hla⟩ := hI'
  show Ou 45 0 [vR 7 0, vI a, vN] [] g r _
  obtain ⟨sg1, sg2, sg3⟩ := hI.2.1
  obtain ⟨tx1, tx2, tx3, tx4⟩ := hI.2.2.1
  have ru0 : g 7 0 10 = g 8 0 8 := hI.2.2.2.1.1.1
  have ru1 := hI.2.2.2.1.2.1.1
  have wd0 : g 1 0 1 = g 8 0 14 := hI.2.2.2.2.1.1.1
  have wd1 := hI.2.2.2.2.1.2.1.1
  have wd2 := hI.2.2.2.2.1.2.2
  have nw0 : g 0 0 0 = g 27 0 8 := hI.2.2.2.2.2.1.1.1
  have nw1 : g 0 0 1 = g 28 0 8 := hI.2.2.2.2.2.1.1.2.1
  have nw2 := hI.2.2.2.2.2.1.2.1
  have nw3 := hI.2.2.2.2.2.1.2.2.1
  have st0 := hI.2.2.2.2.2.2.1.1
  have st1 := hI.2.2.2.2.2.2.1.2.1
  have st2 := hI.2.2.2.2.2.2.1.2.2.1
  have la0 : g 7 0 13 = g 8 0 4 := hI.2.2.2.2.2.2.2.2
  refine o_iload_n (n := 1) rfl rfl rfl ?_
  refine o_iconst (n := 2) rfl rfl ?_
  refine o_icmp_lt (n := 5) (t := 10) rfl rfl rfl (fun q2 => ?_) (fun q2 => ?_)
  · refine o_bipush (n := 12) rfl rfl ?_
    refine o_iret rfl rfl ?_
    refine q8_of (g := g) (r := r) (fun k hk => by first | rfl | exact gset_kf (isM_ne hk (by decide)) | exact (gset_kf (isM_ne hk (by decide))).trans (gset_kf (isM_ne hk (by decide))) | exact (gset_kf (isM_ne hk (by decide))).trans ((gset_kf (isM_ne hk (by decide))).trans (gset_kf (isM_ne hk (by decide)))) | exact (gset_kf (isM_ne hk (by decide))).trans ((gset_kf (isM_ne hk (by decide))).trans ((gset_kf (isM_ne hk (by decide))).trans (gset_kf (isM_ne hk (by decide)))))) hI (fun h hh hJ => ?_)
    show Ou 121 0 [vR 8 0, vI a, vN] [] h _ _
    obtain ⟨jsg1, jsg2, jsg3⟩ := hJ.2.1
    obtain ⟨jtx1, jtx2, jtx3, jtx4⟩ := hJ.2.2.1
    have jru0 : g 7 0 10 = h 8 0 8 := hJ.2.2.2.1.1.1
    have jru1 := hJ.2.2.2.1.2.1.1
    have jwd0 : g 1 0 1 = h 8 0 14 := hJ.2.2.2.2.1.1.1
    have jwd1 := hJ.2.2.2.2.1.2.1.1
    have jwd2 := hJ.2.2.2.2.1.2.2
    have jnw0 : g 0 0 0 = h 27 0 8 := hJ.2.2.2.2.2.1.1.1
    have jnw1 : g 0 0 1 = h 28 0 8 := hJ.2.2.2.2.2.1.1.2.1
    have jnw2 := hJ.2.2.2.2.2.1.2.1
    have jnw3 := hJ.2.2.2.2.2.1.2.2.1
    have jst0 := hJ.2.2.2.2.2.2.1.1
    have jst1 := hJ.2.2.2.2.2.2.1.2.1
    have jst2 := hJ.2.2.2.2.2.2.1.2.2.1
    have jla0 : g 7 0 13 = h 8 0 4 := hJ.2.2.2.2.2.2.2.2
    refine o_iload_n (n := 1) rfl rfl rfl ?_
    refine o_i2l (n := 2) rfl rfl ?_
    refine o_lconst (n := 3) rfl rfl ?_
    refine o_ldc2_w (n := 6) rfl rfl ?_
    refine o_invsi (n := 9) rfl rfl rfl rfl rfl rfl (c8_in _ _ _) ?_
    refine o_ifb_ne (n := 12) (t := 15) rfl rfl rfl (fun k9 => ?_) (fun k9 => ?_)
    · refine o_aload_n (n := 16) rfl rfl rfl ?_
      refine o_geti (n := 19) rfl rfl rfl rfl rfl ?_
      refine o_if_gt (n := 22) (t := 29) rfl rfl rfl (fun k19 => ?_) (fun k19 => ?_)
      · refine o_bipush (n := 31) rfl rfl ?_
        refine o_iret rfl rfl ?_
        first
          | (exfalso; omega; done)
          | (refine ⟨rfl, ?_, ?_, ?_⟩
             · subst hh; exact ⟨⟨hS, hR, h6, hP⟩, Isg_c (g := g) (h := g) rfl rfl hsg, Itx_c (g := g) (h := g) rfl rfl rfl rfl htx, Iru_c (g := g) (h := g) (r := r) (by omega) hR (fun _ _ _ => rfl) (fun _ _ _ => rfl) rfl rfl rfl rfl rfl rfl rfl rfl hru, Iwd_c (g := g) (h := g) (by omega) rfl rfl rfl rfl rfl rfl hwd, Inw_c (g := g) (h := g) rfl rfl rfl rfl (fun _ _ _ => rfl) hnw, Ist_c (g := g) (h := g) (r := r) hR rfl rfl (fun _ _ _ => rfl) (fun _ _ _ => rfl) rfl rfl rfl rfl (fun _ _ => rfl) (fun _ _ => rfl) (fun _ _ => rfl) rfl rfl rfl hst, Ish_c (g := g) (h := g) rfl rfl rfl rfl rfl hsh, Ila_c (g := g) (h := g) rfl rfl hla⟩
             · subst hh; rfl
             · subst hh; rfl)
          | (refine ⟨congrArg (fun z => some (vI z)) ?_, ?_, ?_, ?_⟩
             · omega
             · subst hh; exact ⟨⟨hS, hR, h6, hP⟩, Isg_c (g := g) (h := g) rfl rfl hsg, Itx_c (g := g) (h := g) rfl rfl rfl rfl htx, Iru_c (g := g) (h := g) (r := r) (by omega) hR (fun _ _ _ => rfl) (fun _ _ _ => rfl) rfl rfl rfl rfl rfl rfl rfl rfl hru, Iwd_c (g := g) (h := g) (by omega) rfl rfl rfl rfl rfl rfl hwd, Inw_c (g := g) (h := g) rfl rfl rfl rfl (fun _ _ _ => rfl) hnw, Ist_c (g := g) (h := g) (r := r) hR rfl rfl (fun _ _ _ => rfl) (fun _ _ _ => rfl) rfl rfl rfl rfl (fun _ _ => rfl) (fun _ _ => rfl) (fun _ _ => rfl) rfl rfl rfl hst, Ish_c (g := g) (h := g) rfl rfl rfl rfl rfl hsh, Ila_c (g := g) (h := g) rfl rfl hla⟩
             · subst hh; rfl
             · subst hh; rfl)
      · refine o_aload_n (n := 23) rfl rfl rfl ?_
        refine o_geti (n := 26) rfl rfl rfl rfl rfl ?_
        refine o_if_le (n := 29) (t := 32) rfl rfl rfl (fun k26 => ?_) (fun k26 => ?_)
        · refine o_aload_n (n := 33) rfl rfl rfl ?_
          refine o_geti (n := 36) rfl rfl rfl rfl rfl ?_
          refine o_istore_2 (n := 37) rfl rfl rfl ?_
          refine o_aload_n (n := 38) rfl rfl rfl ?_
          refine o_iload_n (n := 39) rfl rfl rfl ?_
          refine o_puti (n := 42) rfl rfl rfl rfl rfl ?_
          refine o_iload_n (n := 43) rfl rfl rfl ?_
          refine o_iret rfl rfl ?_
          first
            | (exfalso; omega; done)
            | (refine ⟨rfl, ?_, ?_, ?_⟩
               · subst hh; exact ⟨⟨hS, hR, h6, hP⟩, ⟨by show 1 ≤ a; omega, by show a ≤ 4; omega, rfl⟩, Itx_c (g := g) (h := g) rfl rfl rfl rfl htx, Iru_c (g := g) (h := g) (r := r) (by omega) hR (fun _ _ _ => rfl) (fun _ _ _ => rfl) rfl rfl rfl rfl rfl rfl rfl rfl hru, Iwd_c (g := g) (h := g) (by omega) rfl rfl rfl rfl rfl rfl hwd, Inw_c (g := g) (h := g) rfl rfl rfl rfl (fun _ _ _ => rfl) hnw, Ist_n (show g 7 0 11 = 0 by have := Ist_z hst (by omega); omega) (show g 8 0 19 = 0 from Ist_z hst (by omega)), Ish_c (g := g) (h := g) rfl rfl rfl rfl rfl hsh, Ila_c (g := g) (h := g) rfl rfl hla⟩
               · subst hh; rfl
               · subst hh; rfl)
            | (refine ⟨congrArg (fun z => some (vI z)) ?_, ?_, ?_, ?_⟩
               · omega
               · subst hh; exact ⟨⟨hS, hR, h6, hP⟩, ⟨by show 1 ≤ a; omega, by show a ≤ 4; omega, rfl⟩, Itx_c (g := g) (h := g) rfl rfl rfl rfl htx, Iru_c (g := g) (h := g) (r := r) (by omega) hR (fun _ _ _ => rfl) (fun _ _ _ => rfl) rfl rfl rfl rfl rfl rfl rfl rfl hru, Iwd_c (g := g) (h := g) (by omega) rfl rfl rfl rfl rfl rfl hwd, Inw_c (g := g) (h := g) rfl rfl rfl rfl (fun _ _ _ => rfl) hnw, Ist_n (show g 7 0 11 = 0 by have := Ist_z hst (by omega); omega) (show g 8 0 19 = 0 from Ist_z hst (by omega)), Ish_c (g := g) (h := g) rfl rfl rfl rfl rfl hsh, Ila_c (g := g) (h := g) rfl rfl hla⟩
               · subst hh; rfl
               · subst hh; rfl)
        · refine o_bipush (n := 31) rfl rfl ?_
          refine o_iret rfl rfl ?_
          first
            | (exfalso; omega; done)
            | (refine ⟨rfl, ?_, ?_, ?_⟩
               · subst hh; exact ⟨⟨hS, hR, h6, hP⟩, Isg_c (g := g) (h := g) rfl rfl hsg, Itx_c (g := g) (h := g) rfl rfl rfl rfl htx, Iru_c (g := g) (h := g) (r := r) (by omega) hR (fun _ _ _ => rfl) (fun _ _ _ => rfl) rfl rfl rfl rfl rfl rfl rfl rfl hru, Iwd_c (g := g) (h := g) (by omega) rfl rfl rfl rfl rfl rfl hwd, Inw_c (g := g) (h := g) rfl rfl rfl rfl (fun _ _ _ => rfl) hnw, Ist_c (g := g) (h := g) (r := r) hR rfl rfl (fun _ _ _ => rfl) (fun _ _ _ => rfl) rfl rfl rfl rfl (fun _ _ => rfl) (fun _ _ => rfl) (fun _ _ => rfl) rfl rfl rfl hst, Ish_c (g := g) (h := g) rfl rfl rfl rfl rfl hsh, Ila_c (g := g) (h := g) rfl rfl hla⟩
               · subst hh; rfl
               · subst hh; rfl)
            | (refine ⟨congrArg (fun z => some (vI z)) ?_, ?_, ?_, ?_⟩
               · omega
               · subst hh; exact ⟨⟨hS, hR, h6, hP⟩, Isg_c (g := g) (h := g) rfl rfl hsg, Itx_c (g := g) (h := g) rfl rfl rfl rfl htx, Iru_c (g := g) (h := g) (r := r) (by omega) hR (fun _ _ _ => rfl) (fun _ _ _ => rfl) rfl rfl rfl rfl rfl rfl rfl rfl hru, Iwd_c (g := g) (h := g) (by omega) rfl rfl rfl rfl rfl rfl hwd, Inw_c (g := g) (h := g) rfl rfl rfl rfl (fun _ _ _ => rfl) hnw, Ist_c (g := g) (h := g) (r := r) hR rfl rfl (fun _ _ _ => rfl) (fun _ _ _ => rfl) rfl rfl rfl rfl (fun _ _ => rfl) (fun _ _ => rfl) (fun _ _ => rfl) rfl rfl rfl hst, Ish_c (g := g) (h := g) rfl rfl rfl rfl rfl hsh, Ila_c (g := g) (h := g) rfl rfl hla⟩
               · subst hh; rfl
               · subst hh; rfl)
    · refine o_bipush (n := 14) rfl rfl ?_
      refine o_iret rfl rfl ?_
      first
        | (exfalso; omega; done)
        | (refine ⟨rfl, ?_, ?_, ?_⟩
           · subst hh; exact ⟨⟨hS, hR, h6, hP⟩, Isg_c (g := g) (h := g) rfl rfl hsg, Itx_c (g := g) (h := g) rfl rfl rfl rfl htx, Iru_c (g := g) (h := g) (r := r) (by omega) hR (fun _ _ _ => rfl) (fun _ _ _ => rfl) rfl rfl rfl rfl rfl rfl rfl rfl hru, Iwd_c (g := g) (h := g) (by omega) rfl rfl rfl rfl rfl rfl hwd, Inw_c (g := g) (h := g) rfl rfl rfl rfl (fun _ _ _ => rfl) hnw, Ist_c (g := g) (h := g) (r := r) hR rfl rfl (fun _ _ _ => rfl) (fun _ _ _ => rfl) rfl rfl rfl rfl (fun _ _ => rfl) (fun _ _ => rfl) (fun _ _ => rfl) rfl rfl rfl hst, Ish_c (g := g) (h := g) rfl rfl rfl rfl rfl hsh, Ila_c (g := g) (h := g) rfl rfl hla⟩
           · subst hh; rfl
           · subst hh; rfl)
        | (refine ⟨congrArg (fun z => some (vI z)) ?_, ?_, ?_, ?_⟩
           · omega
           · subst hh; exact ⟨⟨hS, hR, h6, hP⟩, Isg_c (g := g) (h := g) rfl rfl hsg, Itx_c (g := g) (h := g) rfl rfl rfl rfl htx, Iru_c (g := g) (h := g) (r := r) (by omega) hR (fun _ _ _ => rfl) (fun _ _ _ => rfl) rfl rfl rfl rfl rfl rfl rfl rfl hru, Iwd_c (g := g) (h := g) (by omega) rfl rfl rfl rfl rfl rfl hwd, Inw_c (g := g) (h := g) rfl rfl rfl rfl (fun _ _ _ => rfl) hnw, Ist_c (g := g) (h := g) (r := r) hR rfl rfl (fun _ _ _ => rfl) (fun _ _ _ => rfl) rfl rfl rfl rfl (fun _ _ => rfl) (fun _ _ => rfl) (fun _ _ => rfl) rfl rfl rfl hst, Ish_c (g := g) (h := g) rfl rfl rfl rfl rfl hsh, Ila_c (g := g) (h := g) rfl rfl hla⟩
           · subst hh; rfl
           · subst hh; rfl)
  · refine o_iload_n (n := 6) rfl rfl rfl ?_
    refine o_iconst (n := 7) rfl rfl ?_
    refine o_icmp_le (n := 10) (t := 13) rfl rfl rfl (fun q7 => ?_) (fun q7 => ?_)
    · refine o_aload_n (n := 14) rfl rfl rfl ?_
      refine o_geti (n := 17) rfl rfl rfl rfl rfl ?_
      refine o_if_gt (n := 20) (t := 30) rfl rfl rfl (fun q17 => ?_) (fun q17 => ?_)
      · refine o_bipush (n := 32) rfl rfl ?_
        refine o_iret rfl rfl ?_
        refine q8_of (g := g) (r := r) (fun k hk => by first | rfl | exact gset_kf (isM_ne hk (by decide)) | exact (gset_kf (isM_ne hk (by decide))).trans (gset_kf (isM_ne hk (by decide))) | exact (gset_kf (isM_ne hk (by decide))).trans ((gset_kf (isM_ne hk (by decide))).trans (gset_kf (isM_ne hk (by decide)))) | exact (gset_kf (isM_ne hk (by decide))).trans ((gset_kf (isM_ne hk (by decide))).trans ((gset_kf (isM_ne hk (by decide))).trans (gset_kf (isM_ne hk (by decide)))))) hI (fun h hh hJ => ?_)
        show Ou 121 0 [vR 8 0, vI a, vN] [] h _ _
        obtain ⟨jsg1, jsg2, jsg3⟩ := hJ.2.1
        obtain ⟨jtx1, jtx2, jtx3, jtx4⟩ := hJ.2.2.1
        have jru0 : g 7 0 10 = h 8 0 8 := hJ.2.2.2.1.1.1
        have jru1 := hJ.2.2.2.1.2.1.1
        have jwd0 : g 1 0 1 = h 8 0 14 := hJ.2.2.2.2.1.1.1
        have jwd1 := hJ.2.2.2.2.1.2.1.1
        have jwd2 := hJ.2.2.2.2.1.2.2
        have jnw0 : g 0 0 0 = h 27 0 8 := hJ.2.2.2.2.2.1.1.1
        have jnw1 : g 0 0 1 = h 28 0 8 := hJ.2.2.2.2.2.1.1.2.1
        have jnw2 := hJ.2.2.2.2.2.1.2.1
        have jnw3 := hJ.2.2.2.2.2.1.2.2.1
        have jst0 := hJ.2.2.2.2.2.2.1.1
        have jst1 := hJ.2.2.2.2.2.2.1.2.1
        have jst2 := hJ.2.2.2.2.2.2.1.2.2.1
        have jla0 : g 7 0 13 = h 8 0 4 := hJ.2.2.2.2.2.2.2.2
        refine o_iload_n (n := 1) rfl rfl rfl ?_
        refine o_i2l (n := 2) rfl rfl ?_
        refine o_lconst (n := 3) rfl rfl ?_
        refine o_ldc2_w (n := 6) rfl rfl ?_
        refine o_invsi (n := 9) rfl rfl rfl rfl rfl rfl (c8_in _ _ _) ?_
        refine o_ifb_ne (n := 12) (t := 15) rfl rfl rfl (fun k9 => ?_) (fun k9 => ?_)
        · refine o_aload_n (n := 16) rfl rfl rfl ?_
          refine o_geti (n := 19) rfl rfl rfl rfl rfl ?_
          refine o_if_gt (n := 22) (t := 29) rfl rfl rfl (fun k19 => ?_) (fun k19 => ?_)
          · refine o_bipush (n := 31) rfl rfl ?_
            refine o_iret rfl rfl ?_
            first
              | (exfalso; omega; done)
              | (refine ⟨rfl, ?_, ?_, ?_⟩
                 · subst hh; exact ⟨⟨hS, hR, h6, hP⟩, Isg_c (g := g) (h := g) rfl rfl hsg, Itx_c (g := g) (h := g) rfl rfl rfl rfl htx, Iru_c (g := g) (h := g) (r := r) (by omega) hR (fun _ _ _ => rfl) (fun _ _ _ => rfl) rfl rfl rfl rfl rfl rfl rfl rfl hru, Iwd_c (g := g) (h := g) (by omega) rfl rfl rfl rfl rfl rfl hwd, Inw_c (g := g) (h := g) rfl rfl rfl rfl (fun _ _ _ => rfl) hnw, Ist_c (g := g) (h := g) (r := r) hR rfl rfl (fun _ _ _ => rfl) (fun _ _ _ => rfl) rfl rfl rfl rfl (fun _ _ => rfl) (fun _ _ => rfl) (fun _ _ => rfl) rfl rfl rfl hst, Ish_c (g := g) (h := g) rfl rfl rfl rfl rfl hsh, Ila_c (g := g) (h := g) rfl rfl hla⟩
                 · subst hh; rfl
                 · subst hh; rfl)
              | (refine ⟨congrArg (fun z => some (vI z)) ?_, ?_, ?_, ?_⟩
                 · omega
                 · subst hh; exact ⟨⟨hS, hR, h6, hP⟩, Isg_c (g := g) (h := g) rfl rfl hsg, Itx_c (g := g) (h := g) rfl rfl rfl rfl htx, Iru_c (g := g) (h := g) (r := r) (by omega) hR (fun _ _ _ => rfl) (fun _ _ _ => rfl) rfl rfl rfl rfl rfl rfl rfl rfl hru, Iwd_c (g := g) (h := g) (by omega) rfl rfl rfl rfl rfl rfl hwd, Inw_c (g := g) (h := g) rfl rfl rfl rfl (fun _ _ _ => rfl) hnw, Ist_c (g := g) (h := g) (r := r) hR rfl rfl (fun _ _ _ => rfl) (fun _ _ _ => rfl) rfl rfl rfl rfl (fun _ _ => rfl) (fun _ _ => rfl) (fun _ _ => rfl) rfl rfl rfl hst, Ish_c (g := g) (h := g) rfl rfl rfl rfl rfl hsh, Ila_c (g := g) (h := g) rfl rfl hla⟩
                 · subst hh; rfl
                 · subst hh; rfl)
          · refine o_aload_n (n := 23) rfl rfl rfl ?_
            refine o_geti (n := 26) rfl rfl rfl rfl rfl ?_
            refine o_if_le (n := 29) (t := 32) rfl rfl rfl (fun k26 => ?_) (fun k26 => ?_)
            · refine o_aload_n (n := 33) rfl rfl rfl ?_
              refine o_geti (n := 36) rfl rfl rfl rfl rfl ?_
              refine o_istore_2 (n := 37) rfl rfl rfl ?_
              refine o_aload_n (n := 38) rfl rfl rfl ?_
              refine o_iload_n (n := 39) rfl rfl rfl ?_
              refine o_puti (n := 42) rfl rfl rfl rfl rfl ?_
              refine o_iload_n (n := 43) rfl rfl rfl ?_
              refine o_iret rfl rfl ?_
              first
                | (exfalso; omega; done)
                | (refine ⟨rfl, ?_, ?_, ?_⟩
                   · subst hh; exact ⟨⟨hS, hR, h6, hP⟩, ⟨by show 1 ≤ a; omega, by show a ≤ 4; omega, rfl⟩, Itx_c (g := g) (h := g) rfl rfl rfl rfl htx, Iru_c (g := g) (h := g) (r := r) (by omega) hR (fun _ _ _ => rfl) (fun _ _ _ => rfl) rfl rfl rfl rfl rfl rfl rfl rfl hru, Iwd_c (g := g) (h := g) (by omega) rfl rfl rfl rfl rfl rfl hwd, Inw_c (g := g) (h := g) rfl rfl rfl rfl (fun _ _ _ => rfl) hnw, Ist_n (show g 7 0 11 = 0 by have := Ist_z hst (by omega); omega) (show g 8 0 19 = 0 from Ist_z hst (by omega)), Ish_c (g := g) (h := g) rfl rfl rfl rfl rfl hsh, Ila_c (g := g) (h := g) rfl rfl hla⟩
                   · subst hh; rfl
                   · subst hh; rfl)
                | (refine ⟨congrArg (fun z => some (vI z)) ?_, ?_, ?_, ?_⟩
                   · omega
                   · subst hh; exact ⟨⟨hS, hR, h6, hP⟩, ⟨by show 1 ≤ a; omega, by show a ≤ 4; omega, rfl⟩, Itx_c (g := g) (h := g) rfl rfl rfl rfl htx, Iru_c (g := g) (h := g) (r := r) (by omega) hR (fun _ _ _ => rfl) (fun _ _ _ => rfl) rfl rfl rfl rfl rfl rfl rfl rfl hru, Iwd_c (g := g) (h := g) (by omega) rfl rfl rfl rfl rfl rfl hwd, Inw_c (g := g) (h := g) rfl rfl rfl rfl (fun _ _ _ => rfl) hnw, Ist_n (show g 7 0 11 = 0 by have := Ist_z hst (by omega); omega) (show g 8 0 19 = 0 from Ist_z hst (by omega)), Ish_c (g := g) (h := g) rfl rfl rfl rfl rfl hsh, Ila_c (g := g) (h := g) rfl rfl hla⟩
                   · subst hh; rfl
                   · subst hh; rfl)
            · refine o_bipush (n := 31) rfl rfl ?_
              refine o_iret rfl rfl ?_
              first
                | (exfalso; omega; done)
                | (refine ⟨rfl, ?_, ?_, ?_⟩
                   · subst hh; exact ⟨⟨hS, hR, h6, hP⟩, Isg_c (g := g) (h := g) rfl rfl hsg, Itx_c (g := g) (h := g) rfl rfl rfl rfl htx, Iru_c (g := g) (h := g) (r := r) (by omega) hR (fun _ _ _ => rfl) (fun _ _ _ => rfl) rfl rfl rfl rfl rfl rfl rfl rfl hru, Iwd_c (g := g) (h := g) (by omega) rfl rfl rfl rfl rfl rfl hwd, Inw_c (g := g) (h := g) rfl rfl rfl rfl (fun _ _ _ => rfl) hnw, Ist_c (g := g) (h := g) (r := r) hR rfl rfl (fun _ _ _ => rfl) (fun _ _ _ => rfl) rfl rfl rfl rfl (fun _ _ => rfl) (fun _ _ => rfl) (fun _ _ => rfl) rfl rfl rfl hst, Ish_c (g := g) (h := g) rfl rfl rfl rfl rfl hsh, Ila_c (g := g) (h := g) rfl rfl hla⟩
                   · subst hh; rfl
                   · subst hh; rfl)
                | (refine ⟨congrArg (fun z => some (vI z)) ?_, ?_, ?_, ?_⟩
                   · omega
                   · subst hh; exact ⟨⟨hS, hR, h6, hP⟩, Isg_c (g := g) (h := g) rfl rfl hsg, Itx_c (g := g) (h := g) rfl rfl rfl rfl htx, Iru_c (g := g) (h := g) (r := r) (by omega) hR (fun _ _ _ => rfl) (fun _ _ _ => rfl) rfl rfl rfl rfl rfl rfl rfl rfl hru, Iwd_c (g := g) (h := g) (by omega) rfl rfl rfl rfl rfl rfl hwd, Inw_c (g := g) (h := g) rfl rfl rfl rfl (fun _ _ _ => rfl) hnw, Ist_c (g := g) (h := g) (r := r) hR rfl rfl (fun _ _ _ => rfl) (fun _ _ _ => rfl) rfl rfl rfl rfl (fun _ _ => rfl) (fun _ _ => rfl) (fun _ _ => rfl) rfl rfl rfl hst, Ish_c (g := g) (h := g) rfl rfl rfl rfl rfl hsh, Ila_c (g := g) (h := g) rfl rfl hla⟩
                   · subst hh; rfl
                   · subst hh; rfl)
        · refine o_bipush (n := 14) rfl rfl ?_
          refine o_iret rfl rfl ?_
          first
            | (exfalso; omega; done)
            | (refine ⟨rfl, ?_, ?_, ?_⟩
               · subst hh; exact ⟨⟨hS, hR, h6, hP⟩, Isg_c (g := g) (h := g) rfl rfl hsg, Itx_c (g := g) (h := g) rfl rfl rfl rfl htx, Iru_c (g := g) (h := g) (r := r) (by omega) hR (fun _ _ _ => rfl) (fun _ _ _ => rfl) rfl rfl rfl rfl rfl rfl rfl rfl hru, Iwd_c (g := g) (h := g) (by omega) rfl rfl rfl rfl rfl rfl hwd, Inw_c (g := g) (h := g) rfl rfl rfl rfl (fun _ _ _ => rfl) hnw, Ist_c (g := g) (h := g) (r := r) hR rfl rfl (fun _ _ _ => rfl) (fun _ _ _ => rfl) rfl rfl rfl rfl (fun _ _ => rfl) (fun _ _ => rfl) (fun _ _ => rfl) rfl rfl rfl hst, Ish_c (g := g) (h := g) rfl rfl rfl rfl rfl hsh, Ila_c (g := g) (h := g) rfl rfl hla⟩
               · subst hh; rfl
               · subst hh; rfl)
            | (refine ⟨congrArg (fun z => some (vI z)) ?_, ?_, ?_, ?_⟩
               · omega
               · subst hh; exact ⟨⟨hS, hR, h6, hP⟩, Isg_c (g := g) (h := g) rfl rfl hsg, Itx_c (g := g) (h := g) rfl rfl rfl rfl htx, Iru_c (g := g) (h := g) (r := r) (by omega) hR (fun _ _ _ => rfl) (fun _ _ _ => rfl) rfl rfl rfl rfl rfl rfl rfl rfl hru, Iwd_c (g := g) (h := g) (by omega) rfl rfl rfl rfl rfl rfl hwd, Inw_c (g := g) (h := g) rfl rfl rfl rfl (fun _ _ _ => rfl) hnw, Ist_c (g := g) (h := g) (r := r) hR rfl rfl (fun _ _ _ => rfl) (fun _ _ _ => rfl) rfl rfl rfl rfl (fun _ _ => rfl) (fun _ _ => rfl) (fun _ _ => rfl) rfl rfl rfl hst, Ish_c (g := g) (h := g) rfl rfl rfl rfl rfl hsh, Ila_c (g := g) (h := g) rfl rfl hla⟩
               · subst hh; rfl
               · subst hh; rfl)
      · refine o_aload_n (n := 21) rfl rfl rfl ?_
        refine of_7_1 (n := 24) hS rfl rfl ?_
        refine o_geti (n := 27) rfl rfl rfl (ok_1 (by omega) (by omega)) rfl ?_
        refine o_if_le (n := 30) (t := 33) rfl rfl rfl (fun q27 => ?_) (fun q27 => ?_)
        · refine o_aload_n (n := 34) rfl rfl rfl ?_
          refine o_geti (n := 37) rfl rfl rfl rfl rfl ?_
          refine o_istore_2 (n := 38) rfl rfl rfl ?_
          refine o_aload_n (n := 39) rfl rfl rfl ?_
          refine o_iload_n (n := 40) rfl rfl rfl ?_
          refine o_puti (n := 43) rfl rfl rfl rfl rfl ?_
          refine o_iload_n (n := 44) rfl rfl rfl ?_
          refine o_iret rfl rfl ?_
          refine q8_of (g := g) (r := r) (fun k hk => by first | rfl | exact gset_kf (isM_ne hk (by decide)) | exact (gset_kf (isM_ne hk (by decide))).trans (gset_kf (isM_ne hk (by decide))) | exact (gset_kf (isM_ne hk (by decide))).trans ((gset_kf (isM_ne hk (by decide))).trans (gset_kf (isM_ne hk (by decide)))) | exact (gset_kf (isM_ne hk (by decide))).trans ((gset_kf (isM_ne hk (by decide))).trans ((gset_kf (isM_ne hk (by decide))).trans (gset_kf (isM_ne hk (by decide)))))) hI (fun h hh hJ => ?_)
          show Ou 121 0 [vR 8 0, vI a, vN] [] h _ _
          obtain ⟨jsg1, jsg2, jsg3⟩ := hJ.2.1
          obtain ⟨jtx1, jtx2, jtx3, jtx4⟩ := hJ.2.2.1
          have jru0 : g 7 0 10 = h 8 0 8 := hJ.2.2.2.1.1.1
          have jru1 := hJ.2.2.2.1.2.1.1
          have jwd0 : g 1 0 1 = h 8 0 14 := hJ.2.2.2.2.1.1.1
          have jwd1 := hJ.2.2.2.2.1.2.1.1
          have jwd2 := hJ.2.2.2.2.1.2.2
          have jnw0 : g 0 0 0 = h 27 0 8 := hJ.2.2.2.2.2.1.1.1
          have jnw1 : g 0 0 1 = h 28 0 8 := hJ.2.2.2.2.2.1.1.2.1
          have jnw2 := hJ.2.2.2.2.2.1.2.1
          have jnw3 := hJ.2.2.2.2.2.1.2.2.1
          have jst0 := hJ.2.2.2.2.2.2.1.1
          have jst1 := hJ.2.2.2.2.2.2.1.2.1
          have jst2 := hJ.2.2.2.2.2.2.1.2.2.1
          have jla0 : g 7 0 13 = h 8 0 4 := hJ.2.2.2.2.2.2.2.2
          refine o_iload_n (n := 1) rfl rfl rfl ?_
          refine o_i2l (n := 2) rfl rfl ?_
          refine o_lconst (n := 3) rfl rfl ?_
          refine o_ldc2_w (n := 6) rfl rfl ?_
          refine o_invsi (n := 9) rfl rfl rfl rfl rfl rfl (c8_in _ _ _) ?_
          refine o_ifb_ne (n := 12) (t := 15) rfl rfl rfl (fun k9 => ?_) (fun k9 => ?_)
          · refine o_aload_n (n := 16) rfl rfl rfl ?_
            refine o_geti (n := 19) rfl rfl rfl rfl rfl ?_
            refine o_if_gt (n := 22) (t := 29) rfl rfl rfl (fun k19 => ?_) (fun k19 => ?_)
            · refine o_bipush (n := 31) rfl rfl ?_
              refine o_iret rfl rfl ?_
              first
                | (exfalso; omega; done)
                | (refine ⟨rfl, ?_, ?_, ?_⟩
                   · subst hh; exact ⟨⟨hS, hR, h6, hP⟩, Isg_c (g := g) (h := g) rfl rfl hsg, Itx_c (g := g) (h := g) rfl rfl rfl rfl htx, Iru_c (g := g) (h := g) (r := r) (by omega) hR (fun _ _ _ => rfl) (fun _ _ _ => rfl) rfl rfl rfl rfl rfl rfl rfl rfl hru, Iwd_c (g := g) (h := g) (by omega) rfl rfl rfl rfl rfl rfl hwd, Inw_c (g := g) (h := g) rfl rfl rfl rfl (fun _ _ _ => rfl) hnw, Ist_c (g := g) (h := g) (r := r) hR rfl rfl (fun _ _ _ => rfl) (fun _ _ _ => rfl) rfl rfl rfl rfl (fun _ _ => rfl) (fun _ _ => rfl) (fun _ _ => rfl) rfl rfl rfl hst, Ish_c (g := g) (h := g) rfl rfl rfl rfl rfl hsh, Ila_c (g := g) (h := g) rfl rfl hla⟩
                   · subst hh; rfl
                   · subst hh; rfl)
                | (refine ⟨congrArg (fun z => some (vI z)) ?_, ?_, ?_, ?_⟩
                   · omega
                   · subst hh; exact ⟨⟨hS, hR, h6, hP⟩, Isg_c (g := g) (h := g) rfl rfl hsg, Itx_c (g := g) (h := g) rfl rfl rfl rfl htx, Iru_c (g := g) (h := g) (r := r) (by omega) hR (fun _ _ _ => rfl) (fun _ _ _ => rfl) rfl rfl rfl rfl rfl rfl rfl rfl hru, Iwd_c (g := g) (h := g) (by omega) rfl rfl rfl rfl rfl rfl hwd, Inw_c (g := g) (h := g) rfl rfl rfl rfl (fun _ _ _ => rfl) hnw, Ist_c (g := g) (h := g) (r := r) hR rfl rfl (fun _ _ _ => rfl) (fun _ _ _ => rfl) rfl rfl rfl rfl (fun _ _ => rfl) (fun _ _ => rfl) (fun _ _ => rfl) rfl rfl rfl hst, Ish_c (g := g) (h := g) rfl rfl rfl rfl rfl hsh, Ila_c (g := g) (h := g) rfl rfl hla⟩
                   · subst hh; rfl
                   · subst hh; rfl)
            · refine o_aload_n (n := 23) rfl rfl rfl ?_
              refine o_geti (n := 26) rfl rfl rfl rfl rfl ?_
              refine o_if_le (n := 29) (t := 32) rfl rfl rfl (fun k26 => ?_) (fun k26 => ?_)
              · refine o_aload_n (n := 33) rfl rfl rfl ?_
                refine o_geti (n := 36) rfl rfl rfl rfl rfl ?_
                refine o_istore_2 (n := 37) rfl rfl rfl ?_
                refine o_aload_n (n := 38) rfl rfl rfl ?_
                refine o_iload_n (n := 39) rfl rfl rfl ?_
                refine o_puti (n := 42) rfl rfl rfl rfl rfl ?_
                refine o_iload_n (n := 43) rfl rfl rfl ?_
                refine o_iret rfl rfl ?_
                first
                  | (exfalso; omega; done)
                  | (refine ⟨rfl, ?_, ?_, ?_⟩
                     · subst hh; exact ⟨⟨hS, hR, h6, hP⟩, ⟨by show 1 ≤ a; omega, by show a ≤ 4; omega, rfl⟩, Itx_c (g := g) (h := g) rfl rfl rfl rfl htx, Iru_c (g := g) (h := g) (r := r) (by omega) hR (fun _ _ _ => rfl) (fun _ _ _ => rfl) rfl rfl rfl rfl rfl rfl rfl rfl hru, Iwd_c (g := g) (h := g) (by omega) rfl rfl rfl rfl rfl rfl hwd, Inw_c (g := g) (h := g) rfl rfl rfl rfl (fun _ _ _ => rfl) hnw, Ist_n (show g 7 0 11 = 0 by have := Ist_z hst (by omega); omega) (show g 8 0 19 = 0 from Ist_z hst (by omega)), Ish_c (g := g) (h := g) rfl rfl rfl rfl rfl hsh, Ila_c (g := g) (h := g) rfl rfl hla⟩
                     · subst hh; rfl
                     · subst hh; rfl)
                  | (refine ⟨congrArg (fun z => some (vI z)) ?_, ?_, ?_, ?_⟩
                     · omega
                     · subst hh; exact ⟨⟨hS, hR, h6, hP⟩, ⟨by show 1 ≤ a; omega, by show a ≤ 4; omega, rfl⟩, Itx_c (g := g) (h := g) rfl rfl rfl rfl htx, Iru_c (g := g) (h := g) (r := r) (by omega) hR (fun _ _ _ => rfl) (fun _ _ _ => rfl) rfl rfl rfl rfl rfl rfl rfl rfl hru, Iwd_c (g := g) (h := g) (by omega) rfl rfl rfl rfl rfl rfl hwd, Inw_c (g := g) (h := g) rfl rfl rfl rfl (fun _ _ _ => rfl) hnw, Ist_n (show g 7 0 11 = 0 by have := Ist_z hst (by omega); omega) (show g 8 0 19 = 0 from Ist_z hst (by omega)), Ish_c (g := g) (h := g) rfl rfl rfl rfl rfl hsh, Ila_c (g := g) (h := g) rfl rfl hla⟩
                     · subst hh; rfl
                     · subst hh; rfl)
              · refine o_bipush (n := 31) rfl rfl ?_
                refine o_iret rfl rfl ?_
                first
                  | (exfalso; omega; done)
                  | (refine ⟨rfl, ?_, ?_, ?_⟩
                     · subst hh; exact ⟨⟨hS, hR, h6, hP⟩, Isg_c (g := g) (h := g) rfl rfl hsg, Itx_c (g := g) (h := g) rfl rfl rfl rfl htx, Iru_c (g := g) (h := g) (r := r) (by omega) hR (fun _ _ _ => rfl) (fun _ _ _ => rfl) rfl rfl rfl rfl rfl rfl rfl rfl hru, Iwd_c (g := g) (h := g) (by omega) rfl rfl rfl rfl rfl rfl hwd, Inw_c (g := g) (h := g) rfl rfl rfl rfl (fun _ _ _ => rfl) hnw, Ist_c (g := g) (h := g) (r := r) hR rfl rfl (fun _ _ _ => rfl) (fun _ _ _ => rfl) rfl rfl rfl rfl (fun _ _ => rfl) (fun _ _ => rfl) (fun _ _ => rfl) rfl rfl rfl hst, Ish_c (g := g) (h := g) rfl rfl rfl rfl rfl hsh, Ila_c (g := g) (h := g) rfl rfl hla⟩
                     · subst hh; rfl
                     · subst hh; rfl)
                  | (refine ⟨congrArg (fun z => some (vI z)) ?_, ?_, ?_, ?_⟩
                     · omega
                     · subst hh; exact ⟨⟨hS, hR, h6, hP⟩, Isg_c (g := g) (h := g) rfl rfl hsg, Itx_c (g := g) (h := g) rfl rfl rfl rfl htx, Iru_c (g := g) (h := g) (r := r) (by omega) hR (fun _ _ _ => rfl) (fun _ _ _ => rfl) rfl rfl rfl rfl rfl rfl rfl rfl hru, Iwd_c (g := g) (h := g) (by omega) rfl rfl rfl rfl rfl rfl hwd, Inw_c (g := g) (h := g) rfl rfl rfl rfl (fun _ _ _ => rfl) hnw, Ist_c (g := g) (h := g) (r := r) hR rfl rfl (fun _ _ _ => rfl) (fun _ _ _ => rfl) rfl rfl rfl rfl (fun _ _ => rfl) (fun _ _ => rfl) (fun _ _ => rfl) rfl rfl rfl hst, Ish_c (g := g) (h := g) rfl rfl rfl rfl rfl hsh, Ila_c (g := g) (h := g) rfl rfl hla⟩
                     · subst hh; rfl
                     · subst hh; rfl)
          · refine o_bipush (n := 14) rfl rfl ?_
            refine o_iret rfl rfl ?_
            first
              | (exfalso; omega; done)
              | (refine ⟨rfl, ?_, ?_, ?_⟩
                 · subst hh; exact ⟨⟨hS, hR, h6, hP⟩, Isg_c (g := g) (h := g) rfl rfl hsg, Itx_c (g := g) (h := g) rfl rfl rfl rfl htx, Iru_c (g := g) (h := g) (r := r) (by omega) hR (fun _ _ _ => rfl) (fun _ _ _ => rfl) rfl rfl rfl rfl rfl rfl rfl rfl hru, Iwd_c (g := g) (h := g) (by omega) rfl rfl rfl rfl rfl rfl hwd, Inw_c (g := g) (h := g) rfl rfl rfl rfl (fun _ _ _ => rfl) hnw, Ist_c (g := g) (h := g) (r := r) hR rfl rfl (fun _ _ _ => rfl) (fun _ _ _ => rfl) rfl rfl rfl rfl (fun _ _ => rfl) (fun _ _ => rfl) (fun _ _ => rfl) rfl rfl rfl hst, Ish_c (g := g) (h := g) rfl rfl rfl rfl rfl hsh, Ila_c (g := g) (h := g) rfl rfl hla⟩
                 · subst hh; rfl
                 · subst hh; rfl)
              | (refine ⟨congrArg (fun z => some (vI z)) ?_, ?_, ?_, ?_⟩
                 · omega
                 · subst hh; exact ⟨⟨hS, hR, h6, hP⟩, Isg_c (g := g) (h := g) rfl rfl hsg, Itx_c (g := g) (h := g) rfl rfl rfl rfl htx, Iru_c (g := g) (h := g) (r := r) (by omega) hR (fun _ _ _ => rfl) (fun _ _ _ => rfl) rfl rfl rfl rfl rfl rfl rfl rfl hru, Iwd_c (g := g) (h := g) (by omega) rfl rfl rfl rfl rfl rfl hwd, Inw_c (g := g) (h := g) rfl rfl rfl rfl (fun _ _ _ => rfl) hnw, Ist_c (g := g) (h := g) (r := r) hR rfl rfl (fun _ _ _ => rfl) (fun _ _ _ => rfl) rfl rfl rfl rfl (fun _ _ => rfl) (fun _ _ => rfl) (fun _ _ => rfl) rfl rfl rfl hst, Ish_c (g := g) (h := g) rfl rfl rfl rfl rfl hsh, Ila_c (g := g) (h := g) rfl rfl hla⟩
                 · subst hh; rfl
                 · subst hh; rfl)
        · refine o_bipush (n := 32) rfl rfl ?_
          refine o_iret rfl rfl ?_
          refine q8_of (g := g) (r := r) (fun k hk => by first | rfl | exact gset_kf (isM_ne hk (by decide)) | exact (gset_kf (isM_ne hk (by decide))).trans (gset_kf (isM_ne hk (by decide))) | exact (gset_kf (isM_ne hk (by decide))).trans ((gset_kf (isM_ne hk (by decide))).trans (gset_kf (isM_ne hk (by decide)))) | exact (gset_kf (isM_ne hk (by decide))).trans ((gset_kf (isM_ne hk (by decide))).trans ((gset_kf (isM_ne hk (by decide))).trans (gset_kf (isM_ne hk (by decide)))))) hI (fun h hh hJ => ?_)
          show Ou 121 0 [vR 8 0, vI a, vN] [] h _ _
          obtain ⟨jsg1, jsg2, jsg3⟩ := hJ.2.1
          obtain ⟨jtx1, jtx2, jtx3, jtx4⟩ := hJ.2.2.1
          have jru0 : g 7 0 10 = h 8 0 8 := hJ.2.2.2.1.1.1
          have jru1 := hJ.2.2.2.1.2.1.1
          have jwd0 : g 1 0 1 = h 8 0 14 := hJ.2.2.2.2.1.1.1
          have jwd1 := hJ.2.2.2.2.1.2.1.1
          have jwd2 := hJ.2.2.2.2.1.2.2
          have jnw0 : g 0 0 0 = h 27 0 8 := hJ.2.2.2.2.2.1.1.1
          have jnw1 : g 0 0 1 = h 28 0 8 := hJ.2.2.2.2.2.1.1.2.1
          have jnw2 := hJ.2.2.2.2.2.1.2.1
          have jnw3 := hJ.2.2.2.2.2.1.2.2.1
          have jst0 := hJ.2.2.2.2.2.2.1.1
          have jst1 := hJ.2.2.2.2.2.2.1.2.1
          have jst2 := hJ.2.2.2.2.2.2.1.2.2.1
          have jla0 : g 7 0 13 = h 8 0 4 := hJ.2.2.2.2.2.2.2.2
          refine o_iload_n (n := 1) rfl rfl rfl ?_
          refine o_i2l (n := 2) rfl rfl ?_
          refine o_lconst (n := 3) rfl rfl ?_
          refine o_ldc2_w (n := 6) rfl rfl ?_
          refine o_invsi (n := 9) rfl rfl rfl rfl rfl rfl (c8_in _ _ _) ?_
          refine o_ifb_ne (n := 12) (t := 15) rfl rfl rfl (fun k9 => ?_) (fun k9 => ?_)
          · refine o_aload_n (n := 16) rfl rfl rfl ?_
            refine o_geti (n := 19) rfl rfl rfl rfl rfl ?_
            refine o_if_gt (n := 22) (t := 29) rfl rfl rfl (fun k19 => ?_) (fun k19 => ?_)
            · refine o_bipush (n := 31) rfl rfl ?_
              refine o_iret rfl rfl ?_
              first
                | (exfalso; omega; done)
                | (refine ⟨rfl, ?_, ?_, ?_⟩
                   · subst hh; exact ⟨⟨hS, hR, h6, hP⟩, Isg_c (g := g) (h := g) rfl rfl hsg, Itx_c (g := g) (h := g) rfl rfl rfl rfl htx, Iru_c (g := g) (h := g) (r := r) (by omega) hR (fun _ _ _ => rfl) (fun _ _ _ => rfl) rfl rfl rfl rfl rfl rfl rfl rfl hru, Iwd_c (g := g) (h := g) (by omega) rfl rfl rfl rfl rfl rfl hwd, Inw_c (g := g) (h := g) rfl rfl rfl rfl (fun _ _ _ => rfl) hnw, Ist_c (g := g) (h := g) (r := r) hR rfl rfl (fun _ _ _ => rfl) (fun _ _ _ => rfl) rfl rfl rfl rfl (fun _ _ => rfl) (fun _ _ => rfl) (fun _ _ => rfl) rfl rfl rfl hst, Ish_c (g := g) (h := g) rfl rfl rfl rfl rfl hsh, Ila_c (g := g) (h := g) rfl rfl hla⟩
                   · subst hh; rfl
                   · subst hh; rfl)
                | (refine ⟨congrArg (fun z => some (vI z)) ?_, ?_, ?_, ?_⟩
                   · omega
                   · subst hh; exact ⟨⟨hS, hR, h6, hP⟩, Isg_c (g := g) (h := g) rfl rfl hsg, Itx_c (g := g) (h := g) rfl rfl rfl rfl htx, Iru_c (g := g) (h := g) (r := r) (by omega) hR (fun _ _ _ => rfl) (fun _ _ _ => rfl) rfl rfl rfl rfl rfl rfl rfl rfl hru, Iwd_c (g := g) (h := g) (by omega) rfl rfl rfl rfl rfl rfl hwd, Inw_c (g := g) (h := g) rfl rfl rfl rfl (fun _ _ _ => rfl) hnw, Ist_c (g := g) (h := g) (r := r) hR rfl rfl (fun _ _ _ => rfl) (fun _ _ _ => rfl) rfl rfl rfl rfl (fun _ _ => rfl) (fun _ _ => rfl) (fun _ _ => rfl) rfl rfl rfl hst, Ish_c (g := g) (h := g) rfl rfl rfl rfl rfl hsh, Ila_c (g := g) (h := g) rfl rfl hla⟩
                   · subst hh; rfl
                   · subst hh; rfl)
            · refine o_aload_n (n := 23) rfl rfl rfl ?_
              refine o_geti (n := 26) rfl rfl rfl rfl rfl ?_
              refine o_if_le (n := 29) (t := 32) rfl rfl rfl (fun k26 => ?_) (fun k26 => ?_)
              · refine o_aload_n (n := 33) rfl rfl rfl ?_
                refine o_geti (n := 36) rfl rfl rfl rfl rfl ?_
                refine o_istore_2 (n := 37) rfl rfl rfl ?_
                refine o_aload_n (n := 38) rfl rfl rfl ?_
                refine o_iload_n (n := 39) rfl rfl rfl ?_
                refine o_puti (n := 42) rfl rfl rfl rfl rfl ?_
                refine o_iload_n (n := 43) rfl rfl rfl ?_
                refine o_iret rfl rfl ?_
                first
                  | (exfalso; omega; done)
                  | (refine ⟨rfl, ?_, ?_, ?_⟩
                     · subst hh; exact ⟨⟨hS, hR, h6, hP⟩, ⟨by show 1 ≤ a; omega, by show a ≤ 4; omega, rfl⟩, Itx_c (g := g) (h := g) rfl rfl rfl rfl htx, Iru_c (g := g) (h := g) (r := r) (by omega) hR (fun _ _ _ => rfl) (fun _ _ _ => rfl) rfl rfl rfl rfl rfl rfl rfl rfl hru, Iwd_c (g := g) (h := g) (by omega) rfl rfl rfl rfl rfl rfl hwd, Inw_c (g := g) (h := g) rfl rfl rfl rfl (fun _ _ _ => rfl) hnw, Ist_n (show g 7 0 11 = 0 by have := Ist_z hst (by omega); omega) (show g 8 0 19 = 0 from Ist_z hst (by omega)), Ish_c (g := g) (h := g) rfl rfl rfl rfl rfl hsh, Ila_c (g := g) (h := g) rfl rfl hla⟩
                     · subst hh; rfl
                     · subst hh; rfl)
                  | (refine ⟨congrArg (fun z => some (vI z)) ?_, ?_, ?_, ?_⟩
                     · omega
                     · subst hh; exact ⟨⟨hS, hR, h6, hP⟩, ⟨by show 1 ≤ a; omega, by show a ≤ 4; omega, rfl⟩, Itx_c (g := g) (h := g) rfl rfl rfl rfl htx, Iru_c (g := g) (h := g) (r := r) (by omega) hR (fun _ _ _ => rfl) (fun _ _ _ => rfl) rfl rfl rfl rfl rfl rfl rfl rfl hru, Iwd_c (g := g) (h := g) (by omega) rfl rfl rfl rfl rfl rfl hwd, Inw_c (g := g) (h := g) rfl rfl rfl rfl (fun _ _ _ => rfl) hnw, Ist_n (show g 7 0 11 = 0 by have := Ist_z hst (by omega); omega) (show g 8 0 19 = 0 from Ist_z hst (by omega)), Ish_c (g := g) (h := g) rfl rfl rfl rfl rfl hsh, Ila_c (g := g) (h := g) rfl rfl hla⟩
                     · subst hh; rfl
                     · subst hh; rfl)
              · refine o_bipush (n := 31) rfl rfl ?_
                refine o_iret rfl rfl ?_
                first
                  | (exfalso; omega; done)
                  | (refine ⟨rfl, ?_, ?_, ?_⟩
                     · subst hh; exact ⟨⟨hS, hR, h6, hP⟩, Isg_c (g := g) (h := g) rfl rfl hsg, Itx_c (g := g) (h := g) rfl rfl rfl rfl htx, Iru_c (g := g) (h := g) (r := r) (by omega) hR (fun _ _ _ => rfl) (fun _ _ _ => rfl) rfl rfl rfl rfl rfl rfl rfl rfl hru, Iwd_c (g := g) (h := g) (by omega) rfl rfl rfl rfl rfl rfl hwd, Inw_c (g := g) (h := g) rfl rfl rfl rfl (fun _ _ _ => rfl) hnw, Ist_c (g := g) (h := g) (r := r) hR rfl rfl (fun _ _ _ => rfl) (fun _ _ _ => rfl) rfl rfl rfl rfl (fun _ _ => rfl) (fun _ _ => rfl) (fun _ _ => rfl) rfl rfl rfl hst, Ish_c (g := g) (h := g) rfl rfl rfl rfl rfl hsh, Ila_c (g := g) (h := g) rfl rfl hla⟩
                     · subst hh; rfl
                     · subst hh; rfl)
                  | (refine ⟨congrArg (fun z => some (vI z)) ?_, ?_, ?_, ?_⟩
                     · omega
                     · subst hh; exact ⟨⟨hS, hR, h6, hP⟩, Isg_c (g := g) (h := g) rfl rfl hsg, Itx_c (g := g) (h := g) rfl rfl rfl rfl htx, Iru_c (g := g) (h := g) (r := r) (by omega) hR (fun _ _ _ => rfl) (fun _ _ _ => rfl) rfl rfl rfl rfl rfl rfl rfl rfl hru, Iwd_c (g := g) (h := g) (by omega) rfl rfl rfl rfl rfl rfl hwd, Inw_c (g := g) (h := g) rfl rfl rfl rfl (fun _ _ _ => rfl) hnw, Ist_c (g := g) (h := g) (r := r) hR rfl rfl (fun _ _ _ => rfl) (fun _ _ _ => rfl) rfl rfl rfl rfl (fun _ _ => rfl) (fun _ _ => rfl) (fun _ _ => rfl) rfl rfl rfl hst, Ish_c (g := g) (h := g) rfl rfl rfl rfl rfl hsh, Ila_c (g := g) (h := g) rfl rfl hla⟩
                     · subst hh; rfl
                     · subst hh; rfl)
          · refine o_bipush (n := 14) rfl rfl ?_
            refine o_iret rfl rfl ?_
            first
              | (exfalso; omega; done)
              | (refine ⟨rfl, ?_, ?_, ?_⟩
                 · subst hh; exact ⟨⟨hS, hR, h6, hP⟩, Isg_c (g := g) (h := g) rfl rfl hsg, Itx_c (g := g) (h := g) rfl rfl rfl rfl htx, Iru_c (g := g) (h := g) (r := r) (by omega) hR (fun _ _ _ => rfl) (fun _ _ _ => rfl) rfl rfl rfl rfl rfl rfl rfl rfl hru, Iwd_c (g := g) (h := g) (by omega) rfl rfl rfl rfl rfl rfl hwd, Inw_c (g := g) (h := g) rfl rfl rfl rfl (fun _ _ _ => rfl) hnw, Ist_c (g := g) (h := g) (r := r) hR rfl rfl (fun _ _ _ => rfl) (fun _ _ _ => rfl) rfl rfl rfl rfl (fun _ _ => rfl) (fun _ _ => rfl) (fun _ _ => rfl) rfl rfl rfl hst, Ish_c (g := g) (h := g) rfl rfl rfl rfl rfl hsh, Ila_c (g := g) (h := g) rfl rfl hla⟩
                 · subst hh; rfl
                 · subst hh; rfl)
              | (refine ⟨congrArg (fun z => some (vI z)) ?_, ?_, ?_, ?_⟩
                 · omega
                 · subst hh; exact ⟨⟨hS, hR, h6, hP⟩, Isg_c (g := g) (h := g) rfl rfl hsg, Itx_c (g := g) (h := g) rfl rfl rfl rfl htx, Iru_c (g := g) (h := g) (r := r) (by omega) hR (fun _ _ _ => rfl) (fun _ _ _ => rfl) rfl rfl rfl rfl rfl rfl rfl rfl hru, Iwd_c (g := g) (h := g) (by omega) rfl rfl rfl rfl rfl rfl hwd, Inw_c (g := g) (h := g) rfl rfl rfl rfl (fun _ _ _ => rfl) hnw, Ist_c (g := g) (h := g) (r := r) hR rfl rfl (fun _ _ _ => rfl) (fun _ _ _ => rfl) rfl rfl rfl rfl (fun _ _ => rfl) (fun _ _ => rfl) (fun _ _ => rfl) rfl rfl rfl hst, Ish_c (g := g) (h := g) rfl rfl rfl rfl rfl hsh, Ila_c (g := g) (h := g) rfl rfl hla⟩
                 · subst hh; rfl
                 · subst hh; rfl)
    · refine o_bipush (n := 12) rfl rfl ?_
      refine o_iret rfl rfl ?_
      refine q8_of (g := g) (r := r) (fun k hk => by first | rfl | exact gset_kf (isM_ne hk (by decide)) | exact (gset_kf (isM_ne hk (by decide))).trans (gset_kf (isM_ne hk (by decide))) | exact (gset_kf (isM_ne hk (by decide))).trans ((gset_kf (isM_ne hk (by decide))).trans (gset_kf (isM_ne hk (by decide)))) | exact (gset_kf (isM_ne hk (by decide))).trans ((gset_kf (isM_ne hk (by decide))).trans ((gset_kf (isM_ne hk (by decide))).trans (gset_kf (isM_ne hk (by decide)))))) hI (fun h hh hJ => ?_)
      show Ou 121 0 [vR 8 0, vI a, vN] [] h _ _
      obtain ⟨jsg1, jsg2, jsg3⟩ := hJ.2.1
      obtain ⟨jtx1, jtx2, jtx3, jtx4⟩ := hJ.2.2.1
      have jru0 : g 7 0 10 = h 8 0 8 := hJ.2.2.2.1.1.1
      have jru1 := hJ.2.2.2.1.2.1.1
      have jwd0 : g 1 0 1 = h 8 0 14 := hJ.2.2.2.2.1.1.1
      have jwd1 := hJ.2.2.2.2.1.2.1.1
      have jwd2 := hJ.2.2.2.2.1.2.2
      have jnw0 : g 0 0 0 = h 27 0 8 := hJ.2.2.2.2.2.1.1.1
      have jnw1 : g 0 0 1 = h 28 0 8 := hJ.2.2.2.2.2.1.1.2.1
      have jnw2 := hJ.2.2.2.2.2.1.2.1
      have jnw3 := hJ.2.2.2.2.2.1.2.2.1
      have jst0 := hJ.2.2.2.2.2.2.1.1
      have jst1 := hJ.2.2.2.2.2.2.1.2.1
      have jst2 := hJ.2.2.2.2.2.2.1.2.2.1
      have jla0 : g 7 0 13 = h 8 0 4 := hJ.2.2.2.2.2.2.2.2
      refine o_iload_n (n := 1) rfl rfl rfl ?_
      refine o_i2l (n := 2) rfl rfl ?_
      refine o_lconst (n := 3) rfl rfl ?_
      refine o_ldc2_w (n := 6) rfl rfl ?_
      refine o_invsi (n := 9) rfl rfl rfl rfl rfl rfl (c8_in _ _ _) ?_
      refine o_ifb_ne (n := 12) (t := 15) rfl rfl rfl (fun k9 => ?_) (fun k9 => ?_)
      · refine o_aload_n (n := 16) rfl rfl rfl ?_
        refine o_geti (n := 19) rfl rfl rfl rfl rfl ?_
        refine o_if_gt (n := 22) (t := 29) rfl rfl rfl (fun k19 => ?_) (fun k19 => ?_)
        · refine o_bipush (n := 31) rfl rfl ?_
          refine o_iret rfl rfl ?_
          first
            | (exfalso; omega; done)
            | (refine ⟨rfl, ?_, ?_, ?_⟩
               · subst hh; exact ⟨⟨hS, hR, h6, hP⟩, Isg_c (g := g) (h := g) rfl rfl hsg, Itx_c (g := g) (h := g) rfl rfl rfl rfl htx, Iru_c (g := g) (h := g) (r := r) (by omega) hR (fun _ _ _ => rfl) (fun _ _ _ => rfl) rfl rfl rfl rfl rfl rfl rfl rfl hru, Iwd_c (g := g) (h := g) (by omega) rfl rfl rfl rfl rfl rfl hwd, Inw_c (g := g) (h := g) rfl rfl rfl rfl (fun _ _ _ => rfl) hnw, Ist_c (g := g) (h := g) (r := r) hR rfl rfl (fun _ _ _ => rfl) (fun _ _ _ => rfl) rfl rfl rfl rfl (fun _ _ => rfl) (fun _ _ => rfl) (fun _ _ => rfl) rfl rfl rfl hst, Ish_c (g := g) (h := g) rfl rfl rfl rfl rfl hsh, Ila_c (g := g) (h := g) rfl rfl hla⟩
               · subst hh; rfl
               · subst hh; rfl)
            | (refine ⟨congrArg (fun z => some (vI z)) ?_, ?_, ?_, ?_⟩
               · omega
               · subst hh; exact ⟨⟨hS, hR, h6, hP⟩, Isg_c (g := g) (h := g) rfl rfl hsg, Itx_c (g := g) (h := g) rfl rfl rfl rfl htx, Iru_c (g := g) (h := g) (r := r) (by omega) hR (fun _ _ _ => rfl) (fun _ _ _ => rfl) rfl rfl rfl rfl rfl rfl rfl rfl hru, Iwd_c (g := g) (h := g) (by omega) rfl rfl rfl rfl rfl rfl hwd, Inw_c (g := g) (h := g) rfl rfl rfl rfl (fun _ _ _ => rfl) hnw, Ist_c (g := g) (h := g) (r := r) hR rfl rfl (fun _ _ _ => rfl) (fun _ _ _ => rfl) rfl rfl rfl rfl (fun _ _ => rfl) (fun _ _ => rfl) (fun _ _ => rfl) rfl rfl rfl hst, Ish_c (g := g) (h := g) rfl rfl rfl rfl rfl hsh, Ila_c (g := g) (h := g) rfl rfl hla⟩
               · subst hh; rfl
               · subst hh; rfl)
        · refine o_aload_n (n := 23) rfl rfl rfl ?_
          refine o_geti (n := 26) rfl rfl rfl rfl rfl ?_
          refine o_if_le (n := 29) (t := 32) rfl rfl rfl (fun k26 => ?_) (fun k26 => ?_)
          · refine o_aload_n (n := 33) rfl rfl rfl ?_
            refine o_geti (n := 36) rfl rfl rfl rfl rfl ?_
            refine o_istore_2 (n := 37) rfl rfl rfl ?_
            refine o_aload_n (n := 38) rfl rfl rfl ?_
            refine o_iload_n (n := 39) rfl rfl rfl ?_
            refine o_puti (n := 42) rfl rfl rfl rfl rfl ?_
            refine o_iload_n (n := 43) rfl rfl rfl ?_
            refine o_iret rfl rfl ?_
            first
              | (exfalso; omega; done)
              | (refine ⟨rfl, ?_, ?_, ?_⟩
                 · subst hh; exact ⟨⟨hS, hR, h6, hP⟩, ⟨by show 1 ≤ a; omega, by show a ≤ 4; omega, rfl⟩, Itx_c (g := g) (h := g) rfl rfl rfl rfl htx, Iru_c (g := g) (h := g) (r := r) (by omega) hR (fun _ _ _ => rfl) (fun _ _ _ => rfl) rfl rfl rfl rfl rfl rfl rfl rfl hru, Iwd_c (g := g) (h := g) (by omega) rfl rfl rfl rfl rfl rfl hwd, Inw_c (g := g) (h := g) rfl rfl rfl rfl (fun _ _ _ => rfl) hnw, Ist_n (show g 7 0 11 = 0 by have := Ist_z hst (by omega); omega) (show g 8 0 19 = 0 from Ist_z hst (by omega)), Ish_c (g := g) (h := g) rfl rfl rfl rfl rfl hsh, Ila_c (g := g) (h := g) rfl rfl hla⟩
                 · subst hh; rfl
                 · subst hh; rfl)
              | (refine ⟨congrArg (fun z => some (vI z)) ?_, ?_, ?_, ?_⟩
                 · omega
                 · subst hh; exact ⟨⟨hS, hR, h6, hP⟩, ⟨by show 1 ≤ a; omega, by show a ≤ 4; omega, rfl⟩, Itx_c (g := g) (h := g) rfl rfl rfl rfl htx, Iru_c (g := g) (h := g) (r := r) (by omega) hR (fun _ _ _ => rfl) (fun _ _ _ => rfl) rfl rfl rfl rfl rfl rfl rfl rfl hru, Iwd_c (g := g) (h := g) (by omega) rfl rfl rfl rfl rfl rfl hwd, Inw_c (g := g) (h := g) rfl rfl rfl rfl (fun _ _ _ => rfl) hnw, Ist_n (show g 7 0 11 = 0 by have := Ist_z hst (by omega); omega) (show g 8 0 19 = 0 from Ist_z hst (by omega)), Ish_c (g := g) (h := g) rfl rfl rfl rfl rfl hsh, Ila_c (g := g) (h := g) rfl rfl hla⟩
                 · subst hh; rfl
                 · subst hh; rfl)
          · refine o_bipush (n := 31) rfl rfl ?_
            refine o_iret rfl rfl ?_
            first
              | (exfalso; omega; done)
              | (refine ⟨rfl, ?_, ?_, ?_⟩
                 · subst hh; exact ⟨⟨hS, hR, h6, hP⟩, Isg_c (g := g) (h := g) rfl rfl hsg, Itx_c (g := g) (h := g) rfl rfl rfl rfl htx, Iru_c (g := g) (h := g) (r := r) (by omega) hR (fun _ _ _ => rfl) (fun _ _ _ => rfl) rfl rfl rfl rfl rfl rfl rfl rfl hru, Iwd_c (g := g) (h := g) (by omega) rfl rfl rfl rfl rfl rfl hwd, Inw_c (g := g) (h := g) rfl rfl rfl rfl (fun _ _ _ => rfl) hnw, Ist_c (g := g) (h := g) (r := r) hR rfl rfl (fun _ _ _ => rfl) (fun _ _ _ => rfl) rfl rfl rfl rfl (fun _ _ => rfl) (fun _ _ => rfl) (fun _ _ => rfl) rfl rfl rfl hst, Ish_c (g := g) (h := g) rfl rfl rfl rfl rfl hsh, Ila_c (g := g) (h := g) rfl rfl hla⟩
                 · subst hh; rfl
                 · subst hh; rfl)
              | (refine ⟨congrArg (fun z => some (vI z)) ?_, ?_, ?_, ?_⟩
                 · omega
                 · subst hh; exact ⟨⟨hS, hR, h6, hP⟩, Isg_c (g := g) (h := g) rfl rfl hsg, Itx_c (g := g) (h := g) rfl rfl rfl rfl htx, Iru_c (g := g) (h := g) (r := r) (by omega) hR (fun _ _ _ => rfl) (fun _ _ _ => rfl) rfl rfl rfl rfl rfl rfl rfl rfl hru, Iwd_c (g := g) (h := g) (by omega) rfl rfl rfl rfl rfl rfl hwd, Inw_c (g := g) (h := g) rfl rfl rfl rfl (fun _ _ _ => rfl) hnw, Ist_c (g := g) (h := g) (r := r) hR rfl rfl (fun _ _ _ => rfl) (fun _ _ _ => rfl) rfl rfl rfl rfl (fun _ _ => rfl) (fun _ _ => rfl) (fun _ _ => rfl) rfl rfl rfl hst, Ish_c (g := g) (h := g) rfl rfl rfl rfl rfl hsh, Ila_c (g := g) (h := g) rfl rfl hla⟩
                 · subst hh; rfl
                 · subst hh; rfl)
      · refine o_bipush (n := 14) rfl rfl ?_
        refine o_iret rfl rfl ?_
        first
          | (exfalso; omega; done)
          | (refine ⟨rfl, ?_, ?_, ?_⟩
             · subst hh; exact ⟨⟨hS, hR, h6, hP⟩, Isg_c (g := g) (h := g) rfl rfl hsg, Itx_c (g := g) (h := g) rfl rfl rfl rfl htx, Iru_c (g := g) (h := g) (r := r) (by omega) hR (fun _ _ _ => rfl) (fun _ _ _ => rfl) rfl rfl rfl rfl rfl rfl rfl rfl hru, Iwd_c (g := g) (h := g) (by omega) rfl rfl rfl rfl rfl rfl hwd, Inw_c (g := g) (h := g) rfl rfl rfl rfl (fun _ _ _ => rfl) hnw, Ist_c (g := g) (h := g) (r := r) hR rfl rfl (fun _ _ _ => rfl) (fun _ _ _ => rfl) rfl rfl rfl rfl (fun _ _ => rfl) (fun _ _ => rfl) (fun _ _ => rfl) rfl rfl rfl hst, Ish_c (g := g) (h := g) rfl rfl rfl rfl rfl hsh, Ila_c (g := g) (h := g) rfl rfl hla⟩
             · subst hh; rfl
             · subst hh; rfl)
          | (refine ⟨congrArg (fun z => some (vI z)) ?_, ?_, ?_, ?_⟩
             · omega
             · subst hh; exact ⟨⟨hS, hR, h6, hP⟩, Isg_c (g := g) (h := g) rfl rfl hsg, Itx_c (g := g) (h := g) rfl rfl rfl rfl htx, Iru_c (g := g) (h := g) (r := r) (by omega) hR (fun _ _ _ => rfl) (fun _ _ _ => rfl) rfl rfl rfl rfl rfl rfl rfl rfl hru, Iwd_c (g := g) (h := g) (by omega) rfl rfl rfl rfl rfl rfl hwd, Inw_c (g := g) (h := g) rfl rfl rfl rfl (fun _ _ _ => rfl) hnw, Ist_c (g := g) (h := g) (r := r) hR rfl rfl (fun _ _ _ => rfl) (fun _ _ _ => rfl) rfl rfl rfl rfl (fun _ _ => rfl) (fun _ _ => rfl) (fun _ _ => rfl) rfl rfl rfl hst, Ish_c (g := g) (h := g) rfl rfl rfl rfl rfl hsh, Ila_c (g := g) (h := g) rfl rfl hla⟩
             · subst hh; rfl
             · subst hh; rfl)
theorem p_type (a : Int) : Pr 46 122 [vI a] := by
  intro c g r hc0 hc1 hI
  have hI' := hI
  obtain ⟨⟨hS, hR, h6, hP⟩, hsg, htx, hru, hwd, hnw, hst, hsh, hla⟩ := hI'
  show Ou 46 0 [vR 7 0, vI a] [] g r _
  obtain ⟨sg1, sg2, sg3⟩ := hI.2.1
  obtain ⟨tx1, tx2, tx3, tx4⟩ := hI.2.2.1
  have ru0 : g 7 0 10 = g 8 0 8 := hI.2.2.2.1.1.1
  have ru1 := hI.2.2.2.1.2.1.1
  have wd0 : g 1 0 1 = g 8 0 14 := hI.2.2.2.2.1.1.1
  have wd1 := hI.2.2.2.2.1.2.1.1
  have wd2 := hI.2.2.2.2.1.2.2
  have nw0 : g 0 0 0 = g 27 0 8 := hI.2.2.2.2.2.1.1.1
  have nw1 : g 0 0 1 = g 28 0 8 := hI.2.2.2.2.2.1.1.2.1
  have nw2 := hI.2.2.2.2.2.1.2.1
  have nw3 := hI.2.2.2.2.2.1.2.2.1
  have st0 := hI.2.2.2.2.2.2.1.1
  have st1 := hI.2.2.2.2.2.2.1.2.1
  have st2 := hI.2.2.2.2.2.2.1.2.2.1
  have la0 : g 7 0 13 = g 8 0 4 := hI.2.2.2.2.2.2.2.2
  refine o_iload_n (n := 1) rfl rfl rfl ?_
  refine o_if_lt (n := 4) (t := 11) rfl rfl rfl (fun q1 => ?_) (fun q1 => ?_)
  · refine o_bipush (n := 13) rfl rfl ?_
    refine o_iret rfl rfl ?_
    refine q8_of (g := g) (r := r) (fun k hk => by first | rfl | exact gset_kf (isM_ne hk (by decide)) | exact (gset_kf (isM_ne hk (by decide))).trans (gset_kf (isM_ne hk (by decide))) | exact (gset_kf (isM_ne hk (by decide))).trans ((gset_kf (isM_ne hk (by decide))).trans (gset_kf (isM_ne hk (by decide)))) | exact (gset_kf (isM_ne hk (by decide))).trans ((gset_kf (isM_ne hk (by decide))).trans ((gset_kf (isM_ne hk (by decide))).trans (gset_kf (isM_ne hk (by decide)))))) hI (fun h hh hJ => ?_)
    show Ou 122 0 [vR 8 0, vI a] [] h _ _
    obtain ⟨jsg1, jsg2, jsg3⟩ := hJ.2.1
    obtain ⟨jtx1, jtx2, jtx3, jtx4⟩ := hJ.2.2.1
    have jru0 : g 7 0 10 = h 8 0 8 := hJ.2.2.2.1.1.1
    have jru1 := hJ.2.2.2.1.2.1.1
    have jwd0 : g 1 0 1 = h 8 0 14 := hJ.2.2.2.2.1.1.1
    have jwd1 := hJ.2.2.2.2.1.2.1.1
    have jwd2 := hJ.2.2.2.2.1.2.2
    have jnw0 : g 0 0 0 = h 27 0 8 := hJ.2.2.2.2.2.1.1.1
    have jnw1 : g 0 0 1 = h 28 0 8 := hJ.2.2.2.2.2.1.1.2.1
    have jnw2 := hJ.2.2.2.2.2.1.2.1
    have jnw3 := hJ.2.2.2.2.2.1.2.2.1
    have jst0 := hJ.2.2.2.2.2.2.1.1
    have jst1 := hJ.2.2.2.2.2.2.1.2.1
    have jst2 := hJ.2.2.2.2.2.2.1.2.2.1
    have jla0 : g 7 0 13 = h 8 0 4 := hJ.2.2.2.2.2.2.2.2
    refine o_iload_n (n := 1) rfl rfl rfl ?_
    refine o_i2l (n := 2) rfl rfl ?_
    refine o_lconst (n := 3) rfl rfl ?_
    refine o_ldc2_w (n := 6) rfl rfl ?_
    refine o_invsi (n := 9) rfl rfl rfl rfl rfl rfl (c8_in _ _ _) ?_
    refine o_ifb_ne (n := 12) (t := 15) rfl rfl rfl (fun k9 => ?_) (fun k9 => ?_)
    · refine o_aload_n (n := 16) rfl rfl rfl ?_
      refine o_geti (n := 19) rfl rfl rfl rfl rfl ?_
      refine o_bipush (n := 21) rfl rfl ?_
      refine o_icmp_ne (n := 24) (t := 27) rfl rfl rfl (fun k21 => ?_) (fun k21 => ?_)
      · refine o_aload_n (n := 28) rfl rfl rfl ?_
        refine of_8_6 (n := 31) hS rfl rfl ?_
        refine o_aload_n (n := 32) rfl rfl rfl ?_
        refine o_geti (n := 35) rfl rfl rfl rfl rfl ?_
        refine o_iload_n (n := 36) rfl rfl rfl ?_
        refine o_iast (n := 37) (L := 20) rfl rfl rfl rfl rfl (by omega) (by omega) ?_
        refine o_aload_n (n := 38) rfl rfl rfl ?_
        refine o_dup (n := 39) rfl rfl rfl ?_
        refine o_geti (n := 42) rfl rfl rfl rfl rfl ?_
        try first | rw [gset_at] | rw [gset_k rfl] | rw [gset_s (by decide)]
        try first | rw [gset_at] | rw [gset_k rfl] | rw [gset_s (by decide)]
        refine o_iconst (n := 43) rfl rfl ?_
        refine o_iadd (n := 44) rfl rfl (by omega) ?_
        refine o_puti (n := 47) rfl rfl rfl rfl rfl ?_
        refine o_aload_n (n := 48) rfl rfl rfl ?_
        refine o_geti (n := 51) rfl rfl rfl rfl rfl ?_
        try first | rw [gset_at] | rw [gset_k rfl] | rw [gset_s (by decide)]
        try first | rw [gset_at] | rw [gset_k rfl] | rw [gset_s (by decide)]
        refine o_iret rfl rfl ?_
        first
          | (exfalso; omega; done)
          | (refine ⟨rfl, ?_, ?_, ?_⟩
             · subst hh; exact ⟨⟨hS, hR, h6, hP⟩, Isg_c (g := g) (h := g) rfl rfl hsg, ⟨by show 0 ≤ g 5 0 1 + 1; omega, by show g 5 0 1 + 1 ≤ 20; omega, by show g 8 0 7 + 1 = g 5 0 1 + 1; omega, fun k k0 k1 => by
               have k1 : k < g 5 0 1 + 1 := k1
               show gset g 21 0 (g 8 0 7) a 21 0 k = gset g 12 0 (g 5 0 1) a 12 0 k
               rw [tx3]
               by_cases z : k = g 5 0 1
               · rw [z, gset_at, gset_at]
               · rw [gset_s z, gset_s z]; exact tx4 k k0 (by omega)⟩, Iru_c (g := g) (h := g) (r := r) (by omega) hR (fun _ _ _ => rfl) (fun _ _ _ => rfl) rfl rfl rfl rfl rfl rfl rfl rfl hru, Iwd_c (g := g) (h := g) (by omega) rfl rfl rfl rfl rfl rfl hwd, Inw_c (g := g) (h := g) rfl rfl rfl rfl (fun _ _ _ => rfl) hnw, Ist_c (g := g) (h := g) (r := r) hR rfl rfl (fun _ _ _ => rfl) (fun _ _ _ => rfl) rfl rfl rfl rfl (fun _ _ => rfl) (fun _ _ => rfl) (fun _ _ => rfl) rfl rfl rfl hst, Ish_c (g := g) (h := g) rfl rfl rfl rfl rfl hsh, Ila_c (g := g) (h := g) rfl rfl hla⟩
             · subst hh; rfl
             · subst hh; rfl)
          | (refine ⟨congrArg (fun z => some (vI z)) ?_, ?_, ?_, ?_⟩
             · omega
             · subst hh; exact ⟨⟨hS, hR, h6, hP⟩, Isg_c (g := g) (h := g) rfl rfl hsg, ⟨by show 0 ≤ g 5 0 1 + 1; omega, by show g 5 0 1 + 1 ≤ 20; omega, by show g 8 0 7 + 1 = g 5 0 1 + 1; omega, fun k k0 k1 => by
               have k1 : k < g 5 0 1 + 1 := k1
               show gset g 21 0 (g 8 0 7) a 21 0 k = gset g 12 0 (g 5 0 1) a 12 0 k
               rw [tx3]
               by_cases z : k = g 5 0 1
               · rw [z, gset_at, gset_at]
               · rw [gset_s z, gset_s z]; exact tx4 k k0 (by omega)⟩, Iru_c (g := g) (h := g) (r := r) (by omega) hR (fun _ _ _ => rfl) (fun _ _ _ => rfl) rfl rfl rfl rfl rfl rfl rfl rfl hru, Iwd_c (g := g) (h := g) (by omega) rfl rfl rfl rfl rfl rfl hwd, Inw_c (g := g) (h := g) rfl rfl rfl rfl (fun _ _ _ => rfl) hnw, Ist_c (g := g) (h := g) (r := r) hR rfl rfl (fun _ _ _ => rfl) (fun _ _ _ => rfl) rfl rfl rfl rfl (fun _ _ => rfl) (fun _ _ => rfl) (fun _ _ => rfl) rfl rfl rfl hst, Ish_c (g := g) (h := g) rfl rfl rfl rfl rfl hsh, Ila_c (g := g) (h := g) rfl rfl hla⟩
             · subst hh; rfl
             · subst hh; rfl)
      · refine o_bipush (n := 26) rfl rfl ?_
        refine o_iret rfl rfl ?_
        first
          | (exfalso; omega; done)
          | (refine ⟨rfl, ?_, ?_, ?_⟩
             · subst hh; exact ⟨⟨hS, hR, h6, hP⟩, Isg_c (g := g) (h := g) rfl rfl hsg, Itx_c (g := g) (h := g) rfl rfl rfl rfl htx, Iru_c (g := g) (h := g) (r := r) (by omega) hR (fun _ _ _ => rfl) (fun _ _ _ => rfl) rfl rfl rfl rfl rfl rfl rfl rfl hru, Iwd_c (g := g) (h := g) (by omega) rfl rfl rfl rfl rfl rfl hwd, Inw_c (g := g) (h := g) rfl rfl rfl rfl (fun _ _ _ => rfl) hnw, Ist_c (g := g) (h := g) (r := r) hR rfl rfl (fun _ _ _ => rfl) (fun _ _ _ => rfl) rfl rfl rfl rfl (fun _ _ => rfl) (fun _ _ => rfl) (fun _ _ => rfl) rfl rfl rfl hst, Ish_c (g := g) (h := g) rfl rfl rfl rfl rfl hsh, Ila_c (g := g) (h := g) rfl rfl hla⟩
             · subst hh; rfl
             · subst hh; rfl)
          | (refine ⟨congrArg (fun z => some (vI z)) ?_, ?_, ?_, ?_⟩
             · omega
             · subst hh; exact ⟨⟨hS, hR, h6, hP⟩, Isg_c (g := g) (h := g) rfl rfl hsg, Itx_c (g := g) (h := g) rfl rfl rfl rfl htx, Iru_c (g := g) (h := g) (r := r) (by omega) hR (fun _ _ _ => rfl) (fun _ _ _ => rfl) rfl rfl rfl rfl rfl rfl rfl rfl hru, Iwd_c (g := g) (h := g) (by omega) rfl rfl rfl rfl rfl rfl hwd, Inw_c (g := g) (h := g) rfl rfl rfl rfl (fun _ _ _ => rfl) hnw, Ist_c (g := g) (h := g) (r := r) hR rfl rfl (fun _ _ _ => rfl) (fun _ _ _ => rfl) rfl rfl rfl rfl (fun _ _ => rfl) (fun _ _ => rfl) (fun _ _ => rfl) rfl rfl rfl hst, Ish_c (g := g) (h := g) rfl rfl rfl rfl rfl hsh, Ila_c (g := g) (h := g) rfl rfl hla⟩
             · subst hh; rfl
             · subst hh; rfl)
    · refine o_bipush (n := 14) rfl rfl ?_
      refine o_iret rfl rfl ?_
      first
        | (exfalso; omega; done)
        | (refine ⟨rfl, ?_, ?_, ?_⟩
           · subst hh; exact ⟨⟨hS, hR, h6, hP⟩, Isg_c (g := g) (h := g) rfl rfl hsg, Itx_c (g := g) (h := g) rfl rfl rfl rfl htx, Iru_c (g := g) (h := g) (r := r) (by omega) hR (fun _ _ _ => rfl) (fun _ _ _ => rfl) rfl rfl rfl rfl rfl rfl rfl rfl hru, Iwd_c (g := g) (h := g) (by omega) rfl rfl rfl rfl rfl rfl hwd, Inw_c (g := g) (h := g) rfl rfl rfl rfl (fun _ _ _ => rfl) hnw, Ist_c (g := g) (h := g) (r := r) hR rfl rfl (fun _ _ _ => rfl) (fun _ _ _ => rfl) rfl rfl rfl rfl (fun _ _ => rfl) (fun _ _ => rfl) (fun _ _ => rfl) rfl rfl rfl hst, Ish_c (g := g) (h := g) rfl rfl rfl rfl rfl hsh, Ila_c (g := g) (h := g) rfl rfl hla⟩
           · subst hh; rfl
           · subst hh; rfl)
        | (refine ⟨congrArg (fun z => some (vI z)) ?_, ?_, ?_, ?_⟩
           · omega
           · subst hh; exact ⟨⟨hS, hR, h6, hP⟩, Isg_c (g := g) (h := g) rfl rfl hsg, Itx_c (g := g) (h := g) rfl rfl rfl rfl htx, Iru_c (g := g) (h := g) (r := r) (by omega) hR (fun _ _ _ => rfl) (fun _ _ _ => rfl) rfl rfl rfl rfl rfl rfl rfl rfl hru, Iwd_c (g := g) (h := g) (by omega) rfl rfl rfl rfl rfl rfl hwd, Inw_c (g := g) (h := g) rfl rfl rfl rfl (fun _ _ _ => rfl) hnw, Ist_c (g := g) (h := g) (r := r) hR rfl rfl (fun _ _ _ => rfl) (fun _ _ _ => rfl) rfl rfl rfl rfl (fun _ _ => rfl) (fun _ _ => rfl) (fun _ _ => rfl) rfl rfl rfl hst, Ish_c (g := g) (h := g) rfl rfl rfl rfl rfl hsh, Ila_c (g := g) (h := g) rfl rfl hla⟩
           · subst hh; rfl
           · subst hh; rfl)
  · refine o_iload_n (n := 5) rfl rfl rfl ?_
    refine o_sipush (n := 8) rfl rfl ?_
    refine o_icmp_le (n := 11) (t := 14) rfl rfl rfl (fun q8 => ?_) (fun q8 => ?_)
    · refine o_aload_n (n := 15) rfl rfl rfl ?_
      refine of_7_0 (n := 18) hS rfl rfl ?_
      refine o_geti (n := 21) rfl rfl rfl rfl rfl ?_
      refine o_bipush (n := 23) rfl rfl ?_
      refine o_icmp_lt (n := 26) (t := 29) rfl rfl rfl (fun q23 => ?_) (fun q23 => ?_)
      · refine o_aload_n (n := 30) rfl rfl rfl ?_
        refine of_7_0 (n := 33) hS rfl rfl ?_
        refine o_iload_n (n := 34) rfl rfl rfl ?_
        refine o_invv (n := 37) rfl rfl rfl rfl rfl rfl rfl rfl rfl rfl (c5_append hS _ tx1 (by omega)) ?_
        refine o_aload_n (n := 38) rfl rfl rfl ?_
        refine of_7_0 (n := 41) hS rfl rfl ?_
        refine o_geti (n := 44) rfl rfl rfl rfl rfl ?_
        try first | rw [gset_at] | rw [gset_k rfl] | rw [gset_s (by decide)]
        try first | rw [gset_at] | rw [gset_k rfl] | rw [gset_s (by decide)]
        refine o_iret rfl rfl ?_
        refine q8_of (g := g) (r := r) (fun k hk => by first | rfl | exact gset_kf (isM_ne hk (by decide)) | exact (gset_kf (isM_ne hk (by decide))).trans (gset_kf (isM_ne hk (by decide))) | exact (gset_kf (isM_ne hk (by decide))).trans ((gset_kf (isM_ne hk (by decide))).trans (gset_kf (isM_ne hk (by decide)))) | exact (gset_kf (isM_ne hk (by decide))).trans ((gset_kf (isM_ne hk (by decide))).trans ((gset_kf (isM_ne hk (by decide))).trans (gset_kf (isM_ne hk (by decide)))))) hI (fun h hh hJ => ?_)
        show Ou 122 0 [vR 8 0, vI a] [] h _ _
        obtain ⟨jsg1, jsg2, jsg3⟩ := hJ.2.1
        obtain ⟨jtx1, jtx2, jtx3, jtx4⟩ := hJ.2.2.1
        have jru0 : g 7 0 10 = h 8 0 8 := hJ.2.2.2.1.1.1
        have jru1 := hJ.2.2.2.1.2.1.1
        have jwd0 : g 1 0 1 = h 8 0 14 := hJ.2.2.2.2.1.1.1
        have jwd1 := hJ.2.2.2.2.1.2.1.1
        have jwd2 := hJ.2.2.2.2.1.2.2
        have jnw0 : g 0 0 0 = h 27 0 8 := hJ.2.2.2.2.2.1.1.1
        have jnw1 : g 0 0 1 = h 28 0 8 := hJ.2.2.2.2.2.1.1.2.1
        have jnw2 := hJ.2.2.2.2.2.1.2.1
        have jnw3 := hJ.2.2.2.2.2.1.2.2.1
        have jst0 := hJ.2.2.2.2.2.2.1.1
        have jst1 := hJ.2.2.2.2.2.2.1.2.1
        have jst2 := hJ.2.2.2.2.2.2.1.2.2.1
        have jla0 : g 7 0 13 = h 8 0 4 := hJ.2.2.2.2.2.2.2.2
        refine o_iload_n (n := 1) rfl rfl rfl ?_
        refine o_i2l (n := 2) rfl rfl ?_
        refine o_lconst (n := 3) rfl rfl ?_
        refine o_ldc2_w (n := 6) rfl rfl ?_
        refine o_invsi (n := 9) rfl rfl rfl rfl rfl rfl (c8_in _ _ _) ?_
        refine o_ifb_ne (n := 12) (t := 15) rfl rfl rfl (fun k9 => ?_) (fun k9 => ?_)
        · refine o_aload_n (n := 16) rfl rfl rfl ?_
          refine o_geti (n := 19) rfl rfl rfl rfl rfl ?_
          refine o_bipush (n := 21) rfl rfl ?_
          refine o_icmp_ne (n := 24) (t := 27) rfl rfl rfl (fun k21 => ?_) (fun k21 => ?_)
          · refine o_aload_n (n := 28) rfl rfl rfl ?_
            refine of_8_6 (n := 31) hS rfl rfl ?_
            refine o_aload_n (n := 32) rfl rfl rfl ?_
            refine o_geti (n := 35) rfl rfl rfl rfl rfl ?_
            refine o_iload_n (n := 36) rfl rfl rfl ?_
            refine o_iast (n := 37) (L := 20) rfl rfl rfl rfl rfl (by omega) (by omega) ?_
            refine o_aload_n (n := 38) rfl rfl rfl ?_
            refine o_dup (n := 39) rfl rfl rfl ?_
            refine o_geti (n := 42) rfl rfl rfl rfl rfl ?_
            try first | rw [gset_at] | rw [gset_k rfl] | rw [gset_s (by decide)]
            try first | rw [gset_at] | rw [gset_k rfl] | rw [gset_s (by decide)]
            refine o_iconst (n := 43) rfl rfl ?_
            refine o_iadd (n := 44) rfl rfl (by omega) ?_
            refine o_puti (n := 47) rfl rfl rfl rfl rfl ?_
            refine o_aload_n (n := 48) rfl rfl rfl ?_
            refine o_geti (n := 51) rfl rfl rfl rfl rfl ?_
            try first | rw [gset_at] | rw [gset_k rfl] | rw [gset_s (by decide)]
            try first | rw [gset_at] | rw [gset_k rfl] | rw [gset_s (by decide)]
            refine o_iret rfl rfl ?_
            first
              | (exfalso; omega; done)
              | (refine ⟨rfl, ?_, ?_, ?_⟩
                 · subst hh; exact ⟨⟨hS, hR, h6, hP⟩, Isg_c (g := g) (h := g) rfl rfl hsg, ⟨by show 0 ≤ g 5 0 1 + 1; omega, by show g 5 0 1 + 1 ≤ 20; omega, by show g 8 0 7 + 1 = g 5 0 1 + 1; omega, fun k k0 k1 => by
                   have k1 : k < g 5 0 1 + 1 := k1
                   show gset g 21 0 (g 8 0 7) a 21 0 k = gset g 12 0 (g 5 0 1) a 12 0 k
                   rw [tx3]
                   by_cases z : k = g 5 0 1
                   · rw [z, gset_at, gset_at]
                   · rw [gset_s z, gset_s z]; exact tx4 k k0 (by omega)⟩, Iru_c (g := g) (h := g) (r := r) (by omega) hR (fun _ _ _ => rfl) (fun _ _ _ => rfl) rfl rfl rfl rfl rfl rfl rfl rfl hru, Iwd_c (g := g) (h := g) (by omega) rfl rfl rfl rfl rfl rfl hwd, Inw_c (g := g) (h := g) rfl rfl rfl rfl (fun _ _ _ => rfl) hnw, Ist_c (g := g) (h := g) (r := r) hR rfl rfl (fun _ _ _ => rfl) (fun _ _ _ => rfl) rfl rfl rfl rfl (fun _ _ => rfl) (fun _ _ => rfl) (fun _ _ => rfl) rfl rfl rfl hst, Ish_c (g := g) (h := g) rfl rfl rfl rfl rfl hsh, Ila_c (g := g) (h := g) rfl rfl hla⟩
                 · subst hh; rfl
                 · subst hh; rfl)
              | (refine ⟨congrArg (fun z => some (vI z)) ?_, ?_, ?_, ?_⟩
                 · omega
                 · subst hh; exact ⟨⟨hS, hR, h6, hP⟩, Isg_c (g := g) (h := g) rfl rfl hsg, ⟨by show 0 ≤ g 5 0 1 + 1; omega, by show g 5 0 1 + 1 ≤ 20; omega, by show g 8 0 7 + 1 = g 5 0 1 + 1; omega, fun k k0 k1 => by
                   have k1 : k < g 5 0 1 + 1 := k1
                   show gset g 21 0 (g 8 0 7) a 21 0 k = gset g 12 0 (g 5 0 1) a 12 0 k
                   rw [tx3]
                   by_cases z : k = g 5 0 1
                   · rw [z, gset_at, gset_at]
                   · rw [gset_s z, gset_s z]; exact tx4 k k0 (by omega)⟩, Iru_c (g := g) (h := g) (r := r) (by omega) hR (fun _ _ _ => rfl) (fun _ _ _ => rfl) rfl rfl rfl rfl rfl rfl rfl rfl hru, Iwd_c (g := g) (h := g) (by omega) rfl rfl rfl rfl rfl rfl hwd, Inw_c (g := g) (h := g) rfl rfl rfl rfl (fun _ _ _ => rfl) hnw, Ist_c (g := g) (h := g) (r := r) hR rfl rfl (fun _ _ _ => rfl) (fun _ _ _ => rfl) rfl rfl rfl rfl (fun _ _ => rfl) (fun _ _ => rfl) (fun _ _ => rfl) rfl rfl rfl hst, Ish_c (g := g) (h := g) rfl rfl rfl rfl rfl hsh, Ila_c (g := g) (h := g) rfl rfl hla⟩
                 · subst hh; rfl
                 · subst hh; rfl)
          · refine o_bipush (n := 26) rfl rfl ?_
            refine o_iret rfl rfl ?_
            first
              | (exfalso; omega; done)
              | (refine ⟨rfl, ?_, ?_, ?_⟩
                 · subst hh; exact ⟨⟨hS, hR, h6, hP⟩, Isg_c (g := g) (h := g) rfl rfl hsg, Itx_c (g := g) (h := g) rfl rfl rfl rfl htx, Iru_c (g := g) (h := g) (r := r) (by omega) hR (fun _ _ _ => rfl) (fun _ _ _ => rfl) rfl rfl rfl rfl rfl rfl rfl rfl hru, Iwd_c (g := g) (h := g) (by omega) rfl rfl rfl rfl rfl rfl hwd, Inw_c (g := g) (h := g) rfl rfl rfl rfl (fun _ _ _ => rfl) hnw, Ist_c (g := g) (h := g) (r := r) hR rfl rfl (fun _ _ _ => rfl) (fun _ _ _ => rfl) rfl rfl rfl rfl (fun _ _ => rfl) (fun _ _ => rfl) (fun _ _ => rfl) rfl rfl rfl hst, Ish_c (g := g) (h := g) rfl rfl rfl rfl rfl hsh, Ila_c (g := g) (h := g) rfl rfl hla⟩
                 · subst hh; rfl
                 · subst hh; rfl)
              | (refine ⟨congrArg (fun z => some (vI z)) ?_, ?_, ?_, ?_⟩
                 · omega
                 · subst hh; exact ⟨⟨hS, hR, h6, hP⟩, Isg_c (g := g) (h := g) rfl rfl hsg, Itx_c (g := g) (h := g) rfl rfl rfl rfl htx, Iru_c (g := g) (h := g) (r := r) (by omega) hR (fun _ _ _ => rfl) (fun _ _ _ => rfl) rfl rfl rfl rfl rfl rfl rfl rfl hru, Iwd_c (g := g) (h := g) (by omega) rfl rfl rfl rfl rfl rfl hwd, Inw_c (g := g) (h := g) rfl rfl rfl rfl (fun _ _ _ => rfl) hnw, Ist_c (g := g) (h := g) (r := r) hR rfl rfl (fun _ _ _ => rfl) (fun _ _ _ => rfl) rfl rfl rfl rfl (fun _ _ => rfl) (fun _ _ => rfl) (fun _ _ => rfl) rfl rfl rfl hst, Ish_c (g := g) (h := g) rfl rfl rfl rfl rfl hsh, Ila_c (g := g) (h := g) rfl rfl hla⟩
                 · subst hh; rfl
                 · subst hh; rfl)
        · refine o_bipush (n := 14) rfl rfl ?_
          refine o_iret rfl rfl ?_
          first
            | (exfalso; omega; done)
            | (refine ⟨rfl, ?_, ?_, ?_⟩
               · subst hh; exact ⟨⟨hS, hR, h6, hP⟩, Isg_c (g := g) (h := g) rfl rfl hsg, Itx_c (g := g) (h := g) rfl rfl rfl rfl htx, Iru_c (g := g) (h := g) (r := r) (by omega) hR (fun _ _ _ => rfl) (fun _ _ _ => rfl) rfl rfl rfl rfl rfl rfl rfl rfl hru, Iwd_c (g := g) (h := g) (by omega) rfl rfl rfl rfl rfl rfl hwd, Inw_c (g := g) (h := g) rfl rfl rfl rfl (fun _ _ _ => rfl) hnw, Ist_c (g := g) (h := g) (r := r) hR rfl rfl (fun _ _ _ => rfl) (fun _ _ _ => rfl) rfl rfl rfl rfl (fun _ _ => rfl) (fun _ _ => rfl) (fun _ _ => rfl) rfl rfl rfl hst, Ish_c (g := g) (h := g) rfl rfl rfl rfl rfl hsh, Ila_c (g := g) (h := g) rfl rfl hla⟩
               · subst hh; rfl
               · subst hh; rfl)
            | (refine ⟨congrArg (fun z => some (vI z)) ?_, ?_, ?_, ?_⟩
               · omega
               · subst hh; exact ⟨⟨hS, hR, h6, hP⟩, Isg_c (g := g) (h := g) rfl rfl hsg, Itx_c (g := g) (h := g) rfl rfl rfl rfl htx, Iru_c (g := g) (h := g) (r := r) (by omega) hR (fun _ _ _ => rfl) (fun _ _ _ => rfl) rfl rfl rfl rfl rfl rfl rfl rfl hru, Iwd_c (g := g) (h := g) (by omega) rfl rfl rfl rfl rfl rfl hwd, Inw_c (g := g) (h := g) rfl rfl rfl rfl (fun _ _ _ => rfl) hnw, Ist_c (g := g) (h := g) (r := r) hR rfl rfl (fun _ _ _ => rfl) (fun _ _ _ => rfl) rfl rfl rfl rfl (fun _ _ => rfl) (fun _ _ => rfl) (fun _ _ => rfl) rfl rfl rfl hst, Ish_c (g := g) (h := g) rfl rfl rfl rfl rfl hsh, Ila_c (g := g) (h := g) rfl rfl hla⟩
               · subst hh; rfl
               · subst hh; rfl)
      · refine o_bipush (n := 28) rfl rfl ?_
        refine o_iret rfl rfl ?_
        refine q8_of (g := g) (r := r) (fun k hk => by first | rfl | exact gset_kf (isM_ne hk (by decide)) | exact (gset_kf (isM_ne hk (by decide))).trans (gset_kf (isM_ne hk (by decide))) | exact (gset_kf (isM_ne hk (by decide))).trans ((gset_kf (isM_ne hk (by decide))).trans (gset_kf (isM_ne hk (by decide)))) | exact (gset_kf (isM_ne hk (by decide))).trans ((gset_kf (isM_ne hk (by decide))).trans ((gset_kf (isM_ne hk (by decide))).trans (gset_kf (isM_ne hk (by decide)))))) hI (fun h hh hJ => ?_)
        show Ou 122 0 [vR 8 0, vI a] [] h _ _
        obtain ⟨jsg1, jsg2, jsg3⟩ := hJ.2.1
        obtain ⟨jtx1, jtx2, jtx3, jtx4⟩ := hJ.2.2.1
        have jru0 : g 7 0 10 = h 8 0 8 := hJ.2.2.2.1.1.1
        have jru1 := hJ.2.2.2.1.2.1.1
        have jwd0 : g 1 0 1 = h 8 0 14 := hJ.2.2.2.2.1.1.1
        have jwd1 := hJ.2.2.2.2.1.2.1.1
        have jwd2 := hJ.2.2.2.2.1.2.2
        have jnw0 : g 0 0 0 = h 27 0 8 := hJ.2.2.2.2.2.1.1.1
        have jnw1 : g 0 0 1 = h 28 0 8 := hJ.2.2.2.2.2.1.1.2.1
        have jnw2 := hJ.2.2.2.2.2.1.2.1
        have jnw3 := hJ.2.2.2.2.2.1.2.2.1
        have jst0 := hJ.2.2.2.2.2.2.1.1
        have jst1 := hJ.2.2.2.2.2.2.1.2.1
        have jst2 := hJ.2.2.2.2.2.2.1.2.2.1
        have jla0 : g 7 0 13 = h 8 0 4 := hJ.2.2.2.2.2.2.2.2
        refine o_iload_n (n := 1) rfl rfl rfl ?_
        refine o_i2l (n := 2) rfl rfl ?_
        refine o_lconst (n := 3) rfl rfl ?_
        refine o_ldc2_w (n := 6) rfl rfl ?_
        refine o_invsi (n := 9) rfl rfl rfl rfl rfl rfl (c8_in _ _ _) ?_
        refine o_ifb_ne (n := 12) (t := 15) rfl rfl rfl (fun k9 => ?_) (fun k9 => ?_)
        · refine o_aload_n (n := 16) rfl rfl rfl ?_
          refine o_geti (n := 19) rfl rfl rfl rfl rfl ?_
          refine o_bipush (n := 21) rfl rfl ?_
          refine o_icmp_ne (n := 24) (t := 27) rfl rfl rfl (fun k21 => ?_) (fun k21 => ?_)
          · refine o_aload_n (n := 28) rfl rfl rfl ?_
            refine of_8_6 (n := 31) hS rfl rfl ?_
            refine o_aload_n (n := 32) rfl rfl rfl ?_
            refine o_geti (n := 35) rfl rfl rfl rfl rfl ?_
            refine o_iload_n (n := 36) rfl rfl rfl ?_
            refine o_iast (n := 37) (L := 20) rfl rfl rfl rfl rfl (by omega) (by omega) ?_
            refine o_aload_n (n := 38) rfl rfl rfl ?_
            refine o_dup (n := 39) rfl rfl rfl ?_
            refine o_geti (n := 42) rfl rfl rfl rfl rfl ?_
            try first | rw [gset_at] | rw [gset_k rfl] | rw [gset_s (by decide)]
            try first | rw [gset_at] | rw [gset_k rfl] | rw [gset_s (by decide)]
            refine o_iconst (n := 43) rfl rfl ?_
            refine o_iadd (n := 44) rfl rfl (by omega) ?_
            refine o_puti (n := 47) rfl rfl rfl rfl rfl ?_
            refine o_aload_n (n := 48) rfl rfl rfl ?_
            refine o_geti (n := 51) rfl rfl rfl rfl rfl ?_
            try first | rw [gset_at] | rw [gset_k rfl] | rw [gset_s (by decide)]
            try first | rw [gset_at] | rw [gset_k rfl] | rw [gset_s (by decide)]
            refine o_iret rfl rfl ?_
            first
              | (exfalso; omega; done)
              | (refine ⟨rfl, ?_, ?_, ?_⟩
                 · subst hh; exact ⟨⟨hS, hR, h6, hP⟩, Isg_c (g := g) (h := g) rfl rfl hsg, ⟨by show 0 ≤ g 5 0 1 + 1; omega, by show g 5 0 1 + 1 ≤ 20; omega, by show g 8 0 7 + 1 = g 5 0 1 + 1; omega, fun k k0 k1 => by
                   have k1 : k < g 5 0 1 + 1 := k1
                   show gset g 21 0 (g 8 0 7) a 21 0 k = gset g 12 0 (g 5 0 1) a 12 0 k
                   rw [tx3]
                   by_cases z : k = g 5 0 1
                   · rw [z, gset_at, gset_at]
                   · rw [gset_s z, gset_s z]; exact tx4 k k0 (by omega)⟩, Iru_c (g := g) (h := g) (r := r) (by omega) hR (fun _ _ _ => rfl) (fun _ _ _ => rfl) rfl rfl rfl rfl rfl rfl rfl rfl hru, Iwd_c (g := g) (h := g) (by omega) rfl rfl rfl rfl rfl rfl hwd, Inw_c (g := g) (h := g) rfl rfl rfl rfl (fun _ _ _ => rfl) hnw, Ist_c (g := g) (h := g) (r := r) hR rfl rfl (fun _ _ _ => rfl) (fun _ _ _ => rfl) rfl rfl rfl rfl (fun _ _ => rfl) (fun _ _ => rfl) (fun _ _ => rfl) rfl rfl rfl hst, Ish_c (g := g) (h := g) rfl rfl rfl rfl rfl hsh, Ila_c (g := g) (h := g) rfl rfl hla⟩
                 · subst hh; rfl
                 · subst hh; rfl)
              | (refine ⟨congrArg (fun z => some (vI z)) ?_, ?_, ?_, ?_⟩
                 · omega
                 · subst hh; exact ⟨⟨hS, hR, h6, hP⟩, Isg_c (g := g) (h := g) rfl rfl hsg, ⟨by show 0 ≤ g 5 0 1 + 1; omega, by show g 5 0 1 + 1 ≤ 20; omega, by show g 8 0 7 + 1 = g 5 0 1 + 1; omega, fun k k0 k1 => by
                   have k1 : k < g 5 0 1 + 1 := k1
                   show gset g 21 0 (g 8 0 7) a 21 0 k = gset g 12 0 (g 5 0 1) a 12 0 k
                   rw [tx3]
                   by_cases z : k = g 5 0 1
                   · rw [z, gset_at, gset_at]
                   · rw [gset_s z, gset_s z]; exact tx4 k k0 (by omega)⟩, Iru_c (g := g) (h := g) (r := r) (by omega) hR (fun _ _ _ => rfl) (fun _ _ _ => rfl) rfl rfl rfl rfl rfl rfl rfl rfl hru, Iwd_c (g := g) (h := g) (by omega) rfl rfl rfl rfl rfl rfl hwd, Inw_c (g := g) (h := g) rfl rfl rfl rfl (fun _ _ _ => rfl) hnw, Ist_c (g := g) (h := g) (r := r) hR rfl rfl (fun _ _ _ => rfl) (fun _ _ _ => rfl) rfl rfl rfl rfl (fun _ _ => rfl) (fun _ _ => rfl) (fun _ _ => rfl) rfl rfl rfl hst, Ish_c (g := g) (h := g) rfl rfl rfl rfl rfl hsh, Ila_c (g := g) (h := g) rfl rfl hla⟩
                 · subst hh; rfl
                 · subst hh; rfl)
          · refine o_bipush (n := 26) rfl rfl ?_
            refine o_iret rfl rfl ?_
            first
              | (exfalso; omega; done)
              | (refine ⟨rfl, ?_, ?_, ?_⟩
                 · subst hh; exact ⟨⟨hS, hR, h6, hP⟩, Isg_c (g := g) (h := g) rfl rfl hsg, Itx_c (g := g) (h := g) rfl rfl rfl rfl htx, Iru_c (g := g) (h := g) (r := r) (by omega) hR (fun _ _ _ => rfl) (fun _ _ _ => rfl) rfl rfl rfl rfl rfl rfl rfl rfl hru, Iwd_c (g := g) (h := g) (by omega) rfl rfl rfl rfl rfl rfl hwd, Inw_c (g := g) (h := g) rfl rfl rfl rfl (fun _ _ _ => rfl) hnw, Ist_c (g := g) (h := g) (r := r) hR rfl rfl (fun _ _ _ => rfl) (fun _ _ _ => rfl) rfl rfl rfl rfl (fun _ _ => rfl) (fun _ _ => rfl) (fun _ _ => rfl) rfl rfl rfl hst, Ish_c (g := g) (h := g) rfl rfl rfl rfl rfl hsh, Ila_c (g := g) (h := g) rfl rfl hla⟩
                 · subst hh; rfl
                 · subst hh; rfl)
              | (refine ⟨congrArg (fun z => some (vI z)) ?_, ?_, ?_, ?_⟩
                 · omega
                 · subst hh; exact ⟨⟨hS, hR, h6, hP⟩, Isg_c (g := g) (h := g) rfl rfl hsg, Itx_c (g := g) (h := g) rfl rfl rfl rfl htx, Iru_c (g := g) (h := g) (r := r) (by omega) hR (fun _ _ _ => rfl) (fun _ _ _ => rfl) rfl rfl rfl rfl rfl rfl rfl rfl hru, Iwd_c (g := g) (h := g) (by omega) rfl rfl rfl rfl rfl rfl hwd, Inw_c (g := g) (h := g) rfl rfl rfl rfl (fun _ _ _ => rfl) hnw, Ist_c (g := g) (h := g) (r := r) hR rfl rfl (fun _ _ _ => rfl) (fun _ _ _ => rfl) rfl rfl rfl rfl (fun _ _ => rfl) (fun _ _ => rfl) (fun _ _ => rfl) rfl rfl rfl hst, Ish_c (g := g) (h := g) rfl rfl rfl rfl rfl hsh, Ila_c (g := g) (h := g) rfl rfl hla⟩
                 · subst hh; rfl
                 · subst hh; rfl)
        · refine o_bipush (n := 14) rfl rfl ?_
          refine o_iret rfl rfl ?_
          first
            | (exfalso; omega; done)
            | (refine ⟨rfl, ?_, ?_, ?_⟩
               · subst hh; exact ⟨⟨hS, hR, h6, hP⟩, Isg_c (g := g) (h := g) rfl rfl hsg, Itx_c (g := g) (h := g) rfl rfl rfl rfl htx, Iru_c (g := g) (h := g) (r := r) (by omega) hR (fun _ _ _ => rfl) (fun _ _ _ => rfl) rfl rfl rfl rfl rfl rfl rfl rfl hru, Iwd_c (g := g) (h := g) (by omega) rfl rfl rfl rfl rfl rfl hwd, Inw_c (g := g) (h := g) rfl rfl rfl rfl (fun _ _ _ => rfl) hnw, Ist_c (g := g) (h := g) (r := r) hR rfl rfl (fun _ _ _ => rfl) (fun _ _ _ => rfl) rfl rfl rfl rfl (fun _ _ => rfl) (fun _ _ => rfl) (fun _ _ => rfl) rfl rfl rfl hst, Ish_c (g := g) (h := g) rfl rfl rfl rfl rfl hsh, Ila_c (g := g) (h := g) rfl rfl hla⟩
               · subst hh; rfl
               · subst hh; rfl)
            | (refine ⟨congrArg (fun z => some (vI z)) ?_, ?_, ?_, ?_⟩
               · omega
               · subst hh; exact ⟨⟨hS, hR, h6, hP⟩, Isg_c (g := g) (h := g) rfl rfl hsg, Itx_c (g := g) (h := g) rfl rfl rfl rfl htx, Iru_c (g := g) (h := g) (r := r) (by omega) hR (fun _ _ _ => rfl) (fun _ _ _ => rfl) rfl rfl rfl rfl rfl rfl rfl rfl hru, Iwd_c (g := g) (h := g) (by omega) rfl rfl rfl rfl rfl rfl hwd, Inw_c (g := g) (h := g) rfl rfl rfl rfl (fun _ _ _ => rfl) hnw, Ist_c (g := g) (h := g) (r := r) hR rfl rfl (fun _ _ _ => rfl) (fun _ _ _ => rfl) rfl rfl rfl rfl (fun _ _ => rfl) (fun _ _ => rfl) (fun _ _ => rfl) rfl rfl rfl hst, Ish_c (g := g) (h := g) rfl rfl rfl rfl rfl hsh, Ila_c (g := g) (h := g) rfl rfl hla⟩
               · subst hh; rfl
               · subst hh; rfl)
    · refine o_bipush (n := 13) rfl rfl ?_
      refine o_iret rfl rfl ?_
      refine q8_of (g := g) (r := r) (fun k hk => by first | rfl | exact gset_kf (isM_ne hk (by decide)) | exact (gset_kf (isM_ne hk (by decide))).trans (gset_kf (isM_ne hk (by decide))) | exact (gset_kf (isM_ne hk (by decide))).trans ((gset_kf (isM_ne hk (by decide))).trans (gset_kf (isM_ne hk (by decide)))) | exact (gset_kf (isM_ne hk (by decide))).trans ((gset_kf (isM_ne hk (by decide))).trans ((gset_kf (isM_ne hk (by decide))).trans (gset_kf (isM_ne hk (by decide)))))) hI (fun h hh hJ => ?_)
      show Ou 122 0 [vR 8 0, vI a] [] h _ _
      obtain ⟨jsg1, jsg2, jsg3⟩ := hJ.2.1
      obtain ⟨jtx1, jtx2, jtx3, jtx4⟩ := hJ.2.2.1
      have jru0 : g 7 0 10 = h 8 0 8 := hJ.2.2.2.1.1.1
      have jru1 := hJ.2.2.2.1.2.1.1
      have jwd0 : g 1 0 1 = h 8 0 14 := hJ.2.2.2.2.1.1.1
      have jwd1 := hJ.2.2.2.2.1.2.1.1
      have jwd2 := hJ.2.2.2.2.1.2.2
      have jnw0 : g 0 0 0 = h 27 0 8 := hJ.2.2.2.2.2.1.1.1
      have jnw1 : g 0 0 1 = h 28 0 8 := hJ.2.2.2.2.2.1.1.2.1
      have jnw2 := hJ.2.2.2.2.2.1.2.1
      have jnw3 := hJ.2.2.2.2.2.1.2.2.1
      have jst0 := hJ.2.2.2.2.2.2.1.1
      have jst1 := hJ.2.2.2.2.2.2.1.2.1
      have jst2 := hJ.2.2.2.2.2.2.1.2.2.1
      have jla0 : g 7 0 13 = h 8 0 4 := hJ.2.2.2.2.2.2.2.2
      refine o_iload_n (n := 1) rfl rfl rfl ?_
      refine o_i2l (n := 2) rfl rfl ?_
      refine o_lconst (n := 3) rfl rfl ?_
      refine o_ldc2_w (n := 6) rfl rfl ?_
      refine o_invsi (n := 9) rfl rfl rfl rfl rfl rfl (c8_in _ _ _) ?_
      refine o_ifb_ne (n := 12) (t := 15) rfl rfl rfl (fun k9 => ?_) (fun k9 => ?_)
      · refine o_aload_n (n := 16) rfl rfl rfl ?_
        refine o_geti (n := 19) rfl rfl rfl rfl rfl ?_
        refine o_bipush (n := 21) rfl rfl ?_
        refine o_icmp_ne (n := 24) (t := 27) rfl rfl rfl (fun k21 => ?_) (fun k21 => ?_)
        · refine o_aload_n (n := 28) rfl rfl rfl ?_
          refine of_8_6 (n := 31) hS rfl rfl ?_
          refine o_aload_n (n := 32) rfl rfl rfl ?_
          refine o_geti (n := 35) rfl rfl rfl rfl rfl ?_
          refine o_iload_n (n := 36) rfl rfl rfl ?_
          refine o_iast (n := 37) (L := 20) rfl rfl rfl rfl rfl (by omega) (by omega) ?_
          refine o_aload_n (n := 38) rfl rfl rfl ?_
          refine o_dup (n := 39) rfl rfl rfl ?_
          refine o_geti (n := 42) rfl rfl rfl rfl rfl ?_
          try first | rw [gset_at] | rw [gset_k rfl] | rw [gset_s (by decide)]
          try first | rw [gset_at] | rw [gset_k rfl] | rw [gset_s (by decide)]
          refine o_iconst (n := 43) rfl rfl ?_
          refine o_iadd (n := 44) rfl rfl (by omega) ?_
          refine o_puti (n := 47) rfl rfl rfl rfl rfl ?_
          refine o_aload_n (n := 48) rfl rfl rfl ?_
          refine o_geti (n := 51) rfl rfl rfl rfl rfl ?_
          try first | rw [gset_at] | rw [gset_k rfl] | rw [gset_s (by decide)]
          try first | rw [gset_at] | rw [gset_k rfl] | rw [gset_s (by decide)]
          refine o_iret rfl rfl ?_
          first
            | (exfalso; omega; done)
            | (refine ⟨rfl, ?_, ?_, ?_⟩
               · subst hh; exact ⟨⟨hS, hR, h6, hP⟩, Isg_c (g := g) (h := g) rfl rfl hsg, ⟨by show 0 ≤ g 5 0 1 + 1; omega, by show g 5 0 1 + 1 ≤ 20; omega, by show g 8 0 7 + 1 = g 5 0 1 + 1; omega, fun k k0 k1 => by
                 have k1 : k < g 5 0 1 + 1 := k1
                 show gset g 21 0 (g 8 0 7) a 21 0 k = gset g 12 0 (g 5 0 1) a 12 0 k
                 rw [tx3]
                 by_cases z : k = g 5 0 1
                 · rw [z, gset_at, gset_at]
                 · rw [gset_s z, gset_s z]; exact tx4 k k0 (by omega)⟩, Iru_c (g := g) (h := g) (r := r) (by omega) hR (fun _ _ _ => rfl) (fun _ _ _ => rfl) rfl rfl rfl rfl rfl rfl rfl rfl hru, Iwd_c (g := g) (h := g) (by omega) rfl rfl rfl rfl rfl rfl hwd, Inw_c (g := g) (h := g) rfl rfl rfl rfl (fun _ _ _ => rfl) hnw, Ist_c (g := g) (h := g) (r := r) hR rfl rfl (fun _ _ _ => rfl) (fun _ _ _ => rfl) rfl rfl rfl rfl (fun _ _ => rfl) (fun _ _ => rfl) (fun _ _ => rfl) rfl rfl rfl hst, Ish_c (g := g) (h := g) rfl rfl rfl rfl rfl hsh, Ila_c (g := g) (h := g) rfl rfl hla⟩
               · subst hh; rfl
               · subst hh; rfl)
            | (refine ⟨congrArg (fun z => some (vI z)) ?_, ?_, ?_, ?_⟩
               · omega
               · subst hh; exact ⟨⟨hS, hR, h6, hP⟩, Isg_c (g := g) (h := g) rfl rfl hsg, ⟨by show 0 ≤ g 5 0 1 + 1; omega, by show g 5 0 1 + 1 ≤ 20; omega, by show g 8 0 7 + 1 = g 5 0 1 + 1; omega, fun k k0 k1 => by
                 have k1 : k < g 5 0 1 + 1 := k1
                 show gset g 21 0 (g 8 0 7) a 21 0 k = gset g 12 0 (g 5 0 1) a 12 0 k
                 rw [tx3]
                 by_cases z : k = g 5 0 1
                 · rw [z, gset_at, gset_at]
                 · rw [gset_s z, gset_s z]; exact tx4 k k0 (by omega)⟩, Iru_c (g := g) (h := g) (r := r) (by omega) hR (fun _ _ _ => rfl) (fun _ _ _ => rfl) rfl rfl rfl rfl rfl rfl rfl rfl hru, Iwd_c (g := g) (h := g) (by omega) rfl rfl rfl rfl rfl rfl hwd, Inw_c (g := g) (h := g) rfl rfl rfl rfl (fun _ _ _ => rfl) hnw, Ist_c (g := g) (h := g) (r := r) hR rfl rfl (fun _ _ _ => rfl) (fun _ _ _ => rfl) rfl rfl rfl rfl (fun _ _ => rfl) (fun _ _ => rfl) (fun _ _ => rfl) rfl rfl rfl hst, Ish_c (g := g) (h := g) rfl rfl rfl rfl rfl hsh, Ila_c (g := g) (h := g) rfl rfl hla⟩
               · subst hh; rfl
               · subst hh; rfl)
        · refine o_bipush (n := 26) rfl rfl ?_
          refine o_iret rfl rfl ?_
          first
            | (exfalso; omega; done)
            | (refine ⟨rfl, ?_, ?_, ?_⟩
               · subst hh; exact ⟨⟨hS, hR, h6, hP⟩, Isg_c (g := g) (h := g) rfl rfl hsg, Itx_c (g := g) (h := g) rfl rfl rfl rfl htx, Iru_c (g := g) (h := g) (r := r) (by omega) hR (fun _ _ _ => rfl) (fun _ _ _ => rfl) rfl rfl rfl rfl rfl rfl rfl rfl hru, Iwd_c (g := g) (h := g) (by omega) rfl rfl rfl rfl rfl rfl hwd, Inw_c (g := g) (h := g) rfl rfl rfl rfl (fun _ _ _ => rfl) hnw, Ist_c (g := g) (h := g) (r := r) hR rfl rfl (fun _ _ _ => rfl) (fun _ _ _ => rfl) rfl rfl rfl rfl (fun _ _ => rfl) (fun _ _ => rfl) (fun _ _ => rfl) rfl rfl rfl hst, Ish_c (g := g) (h := g) rfl rfl rfl rfl rfl hsh, Ila_c (g := g) (h := g) rfl rfl hla⟩
               · subst hh; rfl
               · subst hh; rfl)
            | (refine ⟨congrArg (fun z => some (vI z)) ?_, ?_, ?_, ?_⟩
               · omega
               · subst hh; exact ⟨⟨hS, hR, h6, hP⟩, Isg_c (g := g) (h := g) rfl rfl hsg, Itx_c (g := g) (h := g) rfl rfl rfl rfl htx, Iru_c (g := g) (h := g) (r := r) (by omega) hR (fun _ _ _ => rfl) (fun _ _ _ => rfl) rfl rfl rfl rfl rfl rfl rfl rfl hru, Iwd_c (g := g) (h := g) (by omega) rfl rfl rfl rfl rfl rfl hwd, Inw_c (g := g) (h := g) rfl rfl rfl rfl (fun _ _ _ => rfl) hnw, Ist_c (g := g) (h := g) (r := r) hR rfl rfl (fun _ _ _ => rfl) (fun _ _ _ => rfl) rfl rfl rfl rfl (fun _ _ => rfl) (fun _ _ => rfl) (fun _ _ => rfl) rfl rfl rfl hst, Ish_c (g := g) (h := g) rfl rfl rfl rfl rfl hsh, Ila_c (g := g) (h := g) rfl rfl hla⟩
               · subst hh; rfl
               · subst hh; rfl)
      · refine o_bipush (n := 14) rfl rfl ?_
        refine o_iret rfl rfl ?_
        first
          | (exfalso; omega; done)
          | (refine ⟨rfl, ?_, ?_, ?_⟩
             · subst hh; exact ⟨⟨hS, hR, h6, hP⟩, Isg_c (g := g) (h := g) rfl rfl hsg, Itx_c (g := g) (h := g) rfl rfl rfl rfl htx, Iru_c (g := g) (h := g) (r := r) (by omega) hR (fun _ _ _ => rfl) (fun _ _ _ => rfl) rfl rfl rfl rfl rfl rfl rfl rfl hru, Iwd_c (g := g) (h := g) (by omega) rfl rfl rfl rfl rfl rfl hwd, Inw_c (g := g) (h := g) rfl rfl rfl rfl (fun _ _ _ => rfl) hnw, Ist_c (g := g) (h := g) (r := r) hR rfl rfl (fun _ _ _ => rfl) (fun _ _ _ => rfl) rfl rfl rfl rfl (fun _ _ => rfl) (fun _ _ => rfl) (fun _ _ => rfl) rfl rfl rfl hst, Ish_c (g := g) (h := g) rfl rfl rfl rfl rfl hsh, Ila_c (g := g) (h := g) rfl rfl hla⟩
             · subst hh; rfl
             · subst hh; rfl)
          | (refine ⟨congrArg (fun z => some (vI z)) ?_, ?_, ?_, ?_⟩
             · omega
             · subst hh; exact ⟨⟨hS, hR, h6, hP⟩, Isg_c (g := g) (h := g) rfl rfl hsg, Itx_c (g := g) (h := g) rfl rfl rfl rfl htx, Iru_c (g := g) (h := g) (r := r) (by omega) hR (fun _ _ _ => rfl) (fun _ _ _ => rfl) rfl rfl rfl rfl rfl rfl rfl rfl hru, Iwd_c (g := g) (h := g) (by omega) rfl rfl rfl rfl rfl rfl hwd, Inw_c (g := g) (h := g) rfl rfl rfl rfl (fun _ _ _ => rfl) hnw, Ist_c (g := g) (h := g) (r := r) hR rfl rfl (fun _ _ _ => rfl) (fun _ _ _ => rfl) rfl rfl rfl rfl (fun _ _ => rfl) (fun _ _ => rfl) (fun _ _ => rfl) rfl rfl rfl hst, Ish_c (g := g) (h := g) rfl rfl rfl rfl rfl hsh, Ila_c (g := g) (h := g) rfl rfl hla⟩
             · subst hh; rfl
             · subst hh; rfl)
theorem p_wipe  : Pr 47 123 [] := by
  intro c g r hc0 hc1 hI
  have hI' := hI
  obtain ⟨⟨hS, hR, h6, hP⟩, hsg, htx, hru, hwd, hnw, hst, hsh, hla⟩ := hI'
  show Ou 47 0 [vR 7 0, vN] [] g r _
  obtain ⟨sg1, sg2, sg3⟩ := hI.2.1
  obtain ⟨tx1, tx2, tx3, tx4⟩ := hI.2.2.1
  have ru0 : g 7 0 10 = g 8 0 8 := hI.2.2.2.1.1.1
  have ru1 := hI.2.2.2.1.2.1.1
  have wd0 : g 1 0 1 = g 8 0 14 := hI.2.2.2.2.1.1.1
  have wd1 := hI.2.2.2.2.1.2.1.1
  have wd2 := hI.2.2.2.2.1.2.2
  have nw0 : g 0 0 0 = g 27 0 8 := hI.2.2.2.2.2.1.1.1
  have nw1 : g 0 0 1 = g 28 0 8 := hI.2.2.2.2.2.1.1.2.1
  have nw2 := hI.2.2.2.2.2.1.2.1
  have nw3 := hI.2.2.2.2.2.1.2.2.1
  have st0 := hI.2.2.2.2.2.2.1.1
  have st1 := hI.2.2.2.2.2.2.1.2.1
  have st2 := hI.2.2.2.2.2.2.1.2.2.1
  have la0 : g 7 0 13 = g 8 0 4 := hI.2.2.2.2.2.2.2.2
  refine o_aload_n (n := 1) rfl rfl rfl ?_
  refine of_7_0 (n := 4) hS rfl rfl ?_
  refine o_geti (n := 7) rfl rfl rfl rfl rfl ?_
  refine o_istore_1 (n := 8) rfl rfl rfl ?_
  refine o_aload_n (n := 9) rfl rfl rfl ?_
  refine of_7_0 (n := 12) hS rfl rfl ?_
  refine o_iconst (n := 13) rfl rfl ?_
  refine o_puti (n := 16) rfl rfl rfl rfl rfl ?_
  refine o_iload_n (n := 17) rfl rfl rfl ?_
  refine o_iret rfl rfl ?_
  refine q8_of (g := g) (r := r) (fun k hk => by first | rfl | exact gset_kf (isM_ne hk (by decide)) | exact (gset_kf (isM_ne hk (by decide))).trans (gset_kf (isM_ne hk (by decide))) | exact (gset_kf (isM_ne hk (by decide))).trans ((gset_kf (isM_ne hk (by decide))).trans (gset_kf (isM_ne hk (by decide)))) | exact (gset_kf (isM_ne hk (by decide))).trans ((gset_kf (isM_ne hk (by decide))).trans ((gset_kf (isM_ne hk (by decide))).trans (gset_kf (isM_ne hk (by decide)))))) hI (fun h hh hJ => ?_)
  show Ou 123 0 [vR 8 0, vN] [] h _ _
  obtain ⟨jsg1, jsg2, jsg3⟩ := hJ.2.1
  obtain ⟨jtx1, jtx2, jtx3, jtx4⟩ := hJ.2.2.1
  have jru0 : g 7 0 10 = h 8 0 8 := hJ.2.2.2.1.1.1
  have jru1 := hJ.2.2.2.1.2.1.1
  have jwd0 : g 1 0 1 = h 8 0 14 := hJ.2.2.2.2.1.1.1
  have jwd1 := hJ.2.2.2.2.1.2.1.1
  have jwd2 := hJ.2.2.2.2.1.2.2
  have jnw0 : g 0 0 0 = h 27 0 8 := hJ.2.2.2.2.2.1.1.1
  have jnw1 : g 0 0 1 = h 28 0 8 := hJ.2.2.2.2.2.1.1.2.1
  have jnw2 := hJ.2.2.2.2.2.1.2.1
  have jnw3 := hJ.2.2.2.2.2.1.2.2.1
  have jst0 := hJ.2.2.2.2.2.2.1.1
  have jst1 := hJ.2.2.2.2.2.2.1.2.1
  have jst2 := hJ.2.2.2.2.2.2.1.2.2.1
  have jla0 : g 7 0 13 = h 8 0 4 := hJ.2.2.2.2.2.2.2.2
  refine o_aload_n (n := 1) rfl rfl rfl ?_
  refine o_geti (n := 4) rfl rfl rfl rfl rfl ?_
  refine o_istore_1 (n := 5) rfl rfl rfl ?_
  refine o_aload_n (n := 6) rfl rfl rfl ?_
  refine o_iconst (n := 7) rfl rfl ?_
  refine o_puti (n := 10) rfl rfl rfl rfl rfl ?_
  refine o_iload_n (n := 11) rfl rfl rfl ?_
  refine o_iret rfl rfl ?_
  first
    | (exfalso; omega; done)
    | (refine ⟨rfl, ?_, ?_, ?_⟩
       · subst hh; exact ⟨⟨hS, hR, h6, hP⟩, Isg_c (g := g) (h := g) rfl rfl hsg, ⟨by show (0:Int) ≤ 0; omega, by show (0:Int) ≤ 20; omega, rfl, fun k k0 k1 => by have k1 : k < 0 := k1; omega⟩, Iru_c (g := g) (h := g) (r := r) (by omega) hR (fun _ _ _ => rfl) (fun _ _ _ => rfl) rfl rfl rfl rfl rfl rfl rfl rfl hru, Iwd_c (g := g) (h := g) (by omega) rfl rfl rfl rfl rfl rfl hwd, Inw_c (g := g) (h := g) rfl rfl rfl rfl (fun _ _ _ => rfl) hnw, Ist_c (g := g) (h := g) (r := r) hR rfl rfl (fun _ _ _ => rfl) (fun _ _ _ => rfl) rfl rfl rfl rfl (fun _ _ => rfl) (fun _ _ => rfl) (fun _ _ => rfl) rfl rfl rfl hst, Ish_c (g := g) (h := g) rfl rfl rfl rfl rfl hsh, Ila_c (g := g) (h := g) rfl rfl hla⟩
       · subst hh; rfl
       · subst hh; rfl)
    | (refine ⟨congrArg (fun z => some (vI z)) ?_, ?_, ?_, ?_⟩
       · omega
       · subst hh; exact ⟨⟨hS, hR, h6, hP⟩, Isg_c (g := g) (h := g) rfl rfl hsg, ⟨by show (0:Int) ≤ 0; omega, by show (0:Int) ≤ 20; omega, rfl, fun k k0 k1 => by have k1 : k < 0 := k1; omega⟩, Iru_c (g := g) (h := g) (r := r) (by omega) hR (fun _ _ _ => rfl) (fun _ _ _ => rfl) rfl rfl rfl rfl rfl rfl rfl rfl hru, Iwd_c (g := g) (h := g) (by omega) rfl rfl rfl rfl rfl rfl hwd, Inw_c (g := g) (h := g) rfl rfl rfl rfl (fun _ _ _ => rfl) hnw, Ist_c (g := g) (h := g) (r := r) hR rfl rfl (fun _ _ _ => rfl) (fun _ _ _ => rfl) rfl rfl rfl rfl (fun _ _ => rfl) (fun _ _ => rfl) (fun _ _ => rfl) rfl rfl rfl hst, Ish_c (g := g) (h := g) rfl rfl rfl rfl rfl hsh, Ila_c (g := g) (h := g) rfl rfl hla⟩
       · subst hh; rfl
       · subst hh; rfl)
theorem p_ring (a : Int) : Pr 53 147 [vI a] := by
  intro c g r hc0 hc1 hI
  have hI' := hI
  obtain ⟨⟨hS, hR, h6, hP⟩, hsg, htx, hru, hwd, hnw, hst, hsh, hla⟩ := hI'
  show Ou 53 0 [vR 7 0, vI a, vN] [] g r _
  obtain ⟨sg1, sg2, sg3⟩ := hI.2.1
  obtain ⟨tx1, tx2, tx3, tx4⟩ := hI.2.2.1
  have ru0 : g 7 0 10 = g 8 0 8 := hI.2.2.2.1.1.1
  have ru1 := hI.2.2.2.1.2.1.1
  have wd0 : g 1 0 1 = g 8 0 14 := hI.2.2.2.2.1.1.1
  have wd1 := hI.2.2.2.2.1.2.1.1
  have wd2 := hI.2.2.2.2.1.2.2
  have nw0 : g 0 0 0 = g 27 0 8 := hI.2.2.2.2.2.1.1.1
  have nw1 : g 0 0 1 = g 28 0 8 := hI.2.2.2.2.2.1.1.2.1
  have nw2 := hI.2.2.2.2.2.1.2.1
  have nw3 := hI.2.2.2.2.2.1.2.2.1
  have st0 := hI.2.2.2.2.2.2.1.1
  have st1 := hI.2.2.2.2.2.2.1.2.1
  have st2 := hI.2.2.2.2.2.2.1.2.2.1
  have la0 : g 7 0 13 = g 8 0 4 := hI.2.2.2.2.2.2.2.2
  refine o_iload_n (n := 1) rfl rfl rfl ?_
  refine o_if_lt (n := 4) (t := 9) rfl rfl rfl (fun q1 => ?_) (fun q1 => ?_)
  · refine o_bipush (n := 11) rfl rfl ?_
    refine o_iret rfl rfl ?_
    refine q8_of (g := g) (r := r) (fun k hk => by first | rfl | exact gset_kf (isM_ne hk (by decide)) | exact (gset_kf (isM_ne hk (by decide))).trans (gset_kf (isM_ne hk (by decide))) | exact (gset_kf (isM_ne hk (by decide))).trans ((gset_kf (isM_ne hk (by decide))).trans (gset_kf (isM_ne hk (by decide)))) | exact (gset_kf (isM_ne hk (by decide))).trans ((gset_kf (isM_ne hk (by decide))).trans ((gset_kf (isM_ne hk (by decide))).trans (gset_kf (isM_ne hk (by decide)))))) hI (fun h hh hJ => ?_)
    show Ou 147 0 [vR 8 0, vI a, vN] [] h _ _
    obtain ⟨jsg1, jsg2, jsg3⟩ := hJ.2.1
    obtain ⟨jtx1, jtx2, jtx3, jtx4⟩ := hJ.2.2.1
    have jru0 : g 7 0 10 = h 8 0 8 := hJ.2.2.2.1.1.1
    have jru1 := hJ.2.2.2.1.2.1.1
    have jwd0 : g 1 0 1 = h 8 0 14 := hJ.2.2.2.2.1.1.1
    have jwd1 := hJ.2.2.2.2.1.2.1.1
    have jwd2 := hJ.2.2.2.2.1.2.2
    have jnw0 : g 0 0 0 = h 27 0 8 := hJ.2.2.2.2.2.1.1.1
    have jnw1 : g 0 0 1 = h 28 0 8 := hJ.2.2.2.2.2.1.1.2.1
    have jnw2 := hJ.2.2.2.2.2.1.2.1
    have jnw3 := hJ.2.2.2.2.2.1.2.2.1
    have jst0 := hJ.2.2.2.2.2.2.1.1
    have jst1 := hJ.2.2.2.2.2.2.1.2.1
    have jst2 := hJ.2.2.2.2.2.2.1.2.2.1
    have jla0 : g 7 0 13 = h 8 0 4 := hJ.2.2.2.2.2.2.2.2
    refine o_iload_n (n := 1) rfl rfl rfl ?_
    refine o_i2l (n := 2) rfl rfl ?_
    refine o_lconst (n := 3) rfl rfl ?_
    refine o_ldc2_w (n := 6) rfl rfl ?_
    refine o_invsi (n := 9) rfl rfl rfl rfl rfl rfl (c8_in _ _ _) ?_
    refine o_ifb_ne (n := 12) (t := 15) rfl rfl rfl (fun k9 => ?_) (fun k9 => ?_)
    · refine o_aload_n (n := 16) rfl rfl rfl ?_
      refine of_8_17 (n := 19) hS rfl rfl ?_
      refine o_bipush (n := 21) rfl rfl ?_
      refine o_iald (n := 22) (L := 9) rfl rfl rfl rfl rfl (by omega) (by omega) ?_
      refine o_istore_2 (n := 23) rfl rfl rfl ?_
      refine o_aload_n (n := 24) rfl rfl rfl ?_
      refine of_8_17 (n := 27) hS rfl rfl ?_
      refine o_bipush (n := 29) rfl rfl ?_
      refine o_iload_n (n := 30) rfl rfl rfl ?_
      refine o_iast (n := 31) (L := 9) rfl rfl rfl rfl rfl (by omega) (by omega) ?_
      refine o_iload_n (n := 32) rfl rfl rfl ?_
      refine o_iret rfl rfl ?_
      first
        | (exfalso; omega; done)
        | (refine ⟨rfl, ?_, ?_, ?_⟩
           · subst hh; exact ⟨⟨hS, hR, h6, hP⟩, Isg_c (g := g) (h := g) rfl rfl hsg, Itx_c (g := g) (h := g) rfl rfl rfl rfl htx, Iru_c (g := g) (h := g) (r := r) (by omega) hR (fun _ _ _ => rfl) (fun _ _ _ => rfl) rfl rfl rfl rfl rfl rfl rfl rfl hru, Iwd_c (g := g) (h := g) (by omega) rfl rfl rfl rfl rfl rfl hwd, ⟨⟨rfl, hnw.1.2.1, hnw.1.2.2⟩, ⟨⟨by show 0 ≤ a; omega, by show a ≤ 2; omega⟩, hnw.2.2⟩⟩, Ist_c (g := g) (h := g) (r := r) hR rfl rfl (fun q s z => (gset_k rfl).trans (gset_i (by omega))) (fun _ _ _ => rfl) rfl rfl rfl rfl (fun k z => (gset_s (by omega)).trans (gset_k rfl)) (fun _ _ => rfl) (fun _ _ => rfl) rfl rfl rfl hst, Ish_c (g := g) (h := g) rfl rfl rfl rfl rfl hsh, Ila_c (g := g) (h := g) rfl rfl hla⟩
           · subst hh; rfl
           · subst hh; rfl)
        | (refine ⟨congrArg (fun z => some (vI z)) ?_, ?_, ?_, ?_⟩
           · omega
           · subst hh; exact ⟨⟨hS, hR, h6, hP⟩, Isg_c (g := g) (h := g) rfl rfl hsg, Itx_c (g := g) (h := g) rfl rfl rfl rfl htx, Iru_c (g := g) (h := g) (r := r) (by omega) hR (fun _ _ _ => rfl) (fun _ _ _ => rfl) rfl rfl rfl rfl rfl rfl rfl rfl hru, Iwd_c (g := g) (h := g) (by omega) rfl rfl rfl rfl rfl rfl hwd, ⟨⟨rfl, hnw.1.2.1, hnw.1.2.2⟩, ⟨⟨by show 0 ≤ a; omega, by show a ≤ 2; omega⟩, hnw.2.2⟩⟩, Ist_c (g := g) (h := g) (r := r) hR rfl rfl (fun q s z => (gset_k rfl).trans (gset_i (by omega))) (fun _ _ _ => rfl) rfl rfl rfl rfl (fun k z => (gset_s (by omega)).trans (gset_k rfl)) (fun _ _ => rfl) (fun _ _ => rfl) rfl rfl rfl hst, Ish_c (g := g) (h := g) rfl rfl rfl rfl rfl hsh, Ila_c (g := g) (h := g) rfl rfl hla⟩
           · subst hh; rfl
           · subst hh; rfl)
    · refine o_bipush (n := 14) rfl rfl ?_
      refine o_iret rfl rfl ?_
      first
        | (exfalso; omega; done)
        | (refine ⟨rfl, ?_, ?_, ?_⟩
           · subst hh; exact ⟨⟨hS, hR, h6, hP⟩, Isg_c (g := g) (h := g) rfl rfl hsg, Itx_c (g := g) (h := g) rfl rfl rfl rfl htx, Iru_c (g := g) (h := g) (r := r) (by omega) hR (fun _ _ _ => rfl) (fun _ _ _ => rfl) rfl rfl rfl rfl rfl rfl rfl rfl hru, Iwd_c (g := g) (h := g) (by omega) rfl rfl rfl rfl rfl rfl hwd, Inw_c (g := g) (h := g) rfl rfl rfl rfl (fun _ _ _ => rfl) hnw, Ist_c (g := g) (h := g) (r := r) hR rfl rfl (fun _ _ _ => rfl) (fun _ _ _ => rfl) rfl rfl rfl rfl (fun _ _ => rfl) (fun _ _ => rfl) (fun _ _ => rfl) rfl rfl rfl hst, Ish_c (g := g) (h := g) rfl rfl rfl rfl rfl hsh, Ila_c (g := g) (h := g) rfl rfl hla⟩
           · subst hh; rfl
           · subst hh; rfl)
        | (refine ⟨congrArg (fun z => some (vI z)) ?_, ?_, ?_, ?_⟩
           · omega
           · subst hh; exact ⟨⟨hS, hR, h6, hP⟩, Isg_c (g := g) (h := g) rfl rfl hsg, Itx_c (g := g) (h := g) rfl rfl rfl rfl htx, Iru_c (g := g) (h := g) (r := r) (by omega) hR (fun _ _ _ => rfl) (fun _ _ _ => rfl) rfl rfl rfl rfl rfl rfl rfl rfl hru, Iwd_c (g := g) (h := g) (by omega) rfl rfl rfl rfl rfl rfl hwd, Inw_c (g := g) (h := g) rfl rfl rfl rfl (fun _ _ _ => rfl) hnw, Ist_c (g := g) (h := g) (r := r) hR rfl rfl (fun _ _ _ => rfl) (fun _ _ _ => rfl) rfl rfl rfl rfl (fun _ _ => rfl) (fun _ _ => rfl) (fun _ _ => rfl) rfl rfl rfl hst, Ish_c (g := g) (h := g) rfl rfl rfl rfl rfl hsh, Ila_c (g := g) (h := g) rfl rfl hla⟩
           · subst hh; rfl
           · subst hh; rfl)
  · refine o_iload_n (n := 5) rfl rfl rfl ?_
    refine o_iconst (n := 6) rfl rfl ?_
    refine o_icmp_le (n := 9) (t := 12) rfl rfl rfl (fun q6 => ?_) (fun q6 => ?_)
    · refine o_aload_n (n := 13) rfl rfl rfl ?_
      refine of_7_5 (n := 16) hS rfl rfl ?_
      refine o_geti (n := 19) rfl rfl rfl (ok_0 (by omega) (by omega)) rfl ?_
      refine o_istore_2 (n := 20) rfl rfl rfl ?_
      refine o_aload_n (n := 21) rfl rfl rfl ?_
      refine of_7_5 (n := 24) hS rfl rfl ?_
      refine o_iload_n (n := 25) rfl rfl rfl ?_
      refine o_puti (n := 28) rfl rfl rfl (ok_0 (by omega) (by omega)) rfl ?_
      refine o_iload_n (n := 29) rfl rfl rfl ?_
      refine o_iret rfl rfl ?_
      refine q8_of (g := g) (r := r) (fun k hk => by first | rfl | exact gset_kf (isM_ne hk (by decide)) | exact (gset_kf (isM_ne hk (by decide))).trans (gset_kf (isM_ne hk (by decide))) | exact (gset_kf (isM_ne hk (by decide))).trans ((gset_kf (isM_ne hk (by decide))).trans (gset_kf (isM_ne hk (by decide)))) | exact (gset_kf (isM_ne hk (by decide))).trans ((gset_kf (isM_ne hk (by decide))).trans ((gset_kf (isM_ne hk (by decide))).trans (gset_kf (isM_ne hk (by decide)))))) hI (fun h hh hJ => ?_)
      show Ou 147 0 [vR 8 0, vI a, vN] [] h _ _
      obtain ⟨jsg1, jsg2, jsg3⟩ := hJ.2.1
      obtain ⟨jtx1, jtx2, jtx3, jtx4⟩ := hJ.2.2.1
      have jru0 : g 7 0 10 = h 8 0 8 := hJ.2.2.2.1.1.1
      have jru1 := hJ.2.2.2.1.2.1.1
      have jwd0 : g 1 0 1 = h 8 0 14 := hJ.2.2.2.2.1.1.1
      have jwd1 := hJ.2.2.2.2.1.2.1.1
      have jwd2 := hJ.2.2.2.2.1.2.2
      have jnw0 : g 0 0 0 = h 27 0 8 := hJ.2.2.2.2.2.1.1.1
      have jnw1 : g 0 0 1 = h 28 0 8 := hJ.2.2.2.2.2.1.1.2.1
      have jnw2 := hJ.2.2.2.2.2.1.2.1
      have jnw3 := hJ.2.2.2.2.2.1.2.2.1
      have jst0 := hJ.2.2.2.2.2.2.1.1
      have jst1 := hJ.2.2.2.2.2.2.1.2.1
      have jst2 := hJ.2.2.2.2.2.2.1.2.2.1
      have jla0 : g 7 0 13 = h 8 0 4 := hJ.2.2.2.2.2.2.2.2
      refine o_iload_n (n := 1) rfl rfl rfl ?_
      refine o_i2l (n := 2) rfl rfl ?_
      refine o_lconst (n := 3) rfl rfl ?_
      refine o_ldc2_w (n := 6) rfl rfl ?_
      refine o_invsi (n := 9) rfl rfl rfl rfl rfl rfl (c8_in _ _ _) ?_
      refine o_ifb_ne (n := 12) (t := 15) rfl rfl rfl (fun k9 => ?_) (fun k9 => ?_)
      · refine o_aload_n (n := 16) rfl rfl rfl ?_
        refine of_8_17 (n := 19) hS rfl rfl ?_
        refine o_bipush (n := 21) rfl rfl ?_
        refine o_iald (n := 22) (L := 9) rfl rfl rfl rfl rfl (by omega) (by omega) ?_
        refine o_istore_2 (n := 23) rfl rfl rfl ?_
        refine o_aload_n (n := 24) rfl rfl rfl ?_
        refine of_8_17 (n := 27) hS rfl rfl ?_
        refine o_bipush (n := 29) rfl rfl ?_
        refine o_iload_n (n := 30) rfl rfl rfl ?_
        refine o_iast (n := 31) (L := 9) rfl rfl rfl rfl rfl (by omega) (by omega) ?_
        refine o_iload_n (n := 32) rfl rfl rfl ?_
        refine o_iret rfl rfl ?_
        first
          | (exfalso; omega; done)
          | (refine ⟨rfl, ?_, ?_, ?_⟩
             · subst hh; exact ⟨⟨hS, hR, h6, hP⟩, Isg_c (g := g) (h := g) rfl rfl hsg, Itx_c (g := g) (h := g) rfl rfl rfl rfl htx, Iru_c (g := g) (h := g) (r := r) (by omega) hR (fun _ _ _ => rfl) (fun _ _ _ => rfl) rfl rfl rfl rfl rfl rfl rfl rfl hru, Iwd_c (g := g) (h := g) (by omega) rfl rfl rfl rfl rfl rfl hwd, ⟨⟨rfl, hnw.1.2.1, hnw.1.2.2⟩, ⟨⟨by show 0 ≤ a; omega, by show a ≤ 2; omega⟩, hnw.2.2⟩⟩, Ist_c (g := g) (h := g) (r := r) hR rfl rfl (fun q s z => (gset_k rfl).trans (gset_i (by omega))) (fun _ _ _ => rfl) rfl rfl rfl rfl (fun k z => (gset_s (by omega)).trans (gset_k rfl)) (fun _ _ => rfl) (fun _ _ => rfl) rfl rfl rfl hst, Ish_c (g := g) (h := g) rfl rfl rfl rfl rfl hsh, Ila_c (g := g) (h := g) rfl rfl hla⟩
             · subst hh; rfl
             · subst hh; rfl)
          | (refine ⟨congrArg (fun z => some (vI z)) ?_, ?_, ?_, ?_⟩
             · omega
             · subst hh; exact ⟨⟨hS, hR, h6, hP⟩, Isg_c (g := g) (h := g) rfl rfl hsg, Itx_c (g := g) (h := g) rfl rfl rfl rfl htx, Iru_c (g := g) (h := g) (r := r) (by omega) hR (fun _ _ _ => rfl) (fun _ _ _ => rfl) rfl rfl rfl rfl rfl rfl rfl rfl hru, Iwd_c (g := g) (h := g) (by omega) rfl rfl rfl rfl rfl rfl hwd, ⟨⟨rfl, hnw.1.2.1, hnw.1.2.2⟩, ⟨⟨by show 0 ≤ a; omega, by show a ≤ 2; omega⟩, hnw.2.2⟩⟩, Ist_c (g := g) (h := g) (r := r) hR rfl rfl (fun q s z => (gset_k rfl).trans (gset_i (by omega))) (fun _ _ _ => rfl) rfl rfl rfl rfl (fun k z => (gset_s (by omega)).trans (gset_k rfl)) (fun _ _ => rfl) (fun _ _ => rfl) rfl rfl rfl hst, Ish_c (g := g) (h := g) rfl rfl rfl rfl rfl hsh, Ila_c (g := g) (h := g) rfl rfl hla⟩
             · subst hh; rfl
             · subst hh; rfl)
      · refine o_bipush (n := 14) rfl rfl ?_
        refine o_iret rfl rfl ?_
        first
          | (exfalso; omega; done)
          | (refine ⟨rfl, ?_, ?_, ?_⟩
             · subst hh; exact ⟨⟨hS, hR, h6, hP⟩, Isg_c (g := g) (h := g) rfl rfl hsg, Itx_c (g := g) (h := g) rfl rfl rfl rfl htx, Iru_c (g := g) (h := g) (r := r) (by omega) hR (fun _ _ _ => rfl) (fun _ _ _ => rfl) rfl rfl rfl rfl rfl rfl rfl rfl hru, Iwd_c (g := g) (h := g) (by omega) rfl rfl rfl rfl rfl rfl hwd, Inw_c (g := g) (h := g) rfl rfl rfl rfl (fun _ _ _ => rfl) hnw, Ist_c (g := g) (h := g) (r := r) hR rfl rfl (fun _ _ _ => rfl) (fun _ _ _ => rfl) rfl rfl rfl rfl (fun _ _ => rfl) (fun _ _ => rfl) (fun _ _ => rfl) rfl rfl rfl hst, Ish_c (g := g) (h := g) rfl rfl rfl rfl rfl hsh, Ila_c (g := g) (h := g) rfl rfl hla⟩
             · subst hh; rfl
             · subst hh; rfl)
          | (refine ⟨congrArg (fun z => some (vI z)) ?_, ?_, ?_, ?_⟩
             · omega
             · subst hh; exact ⟨⟨hS, hR, h6, hP⟩, Isg_c (g := g) (h := g) rfl rfl hsg, Itx_c (g := g) (h := g) rfl rfl rfl rfl htx, Iru_c (g := g) (h := g) (r := r) (by omega) hR (fun _ _ _ => rfl) (fun _ _ _ => rfl) rfl rfl rfl rfl rfl rfl rfl rfl hru, Iwd_c (g := g) (h := g) (by omega) rfl rfl rfl rfl rfl rfl hwd, Inw_c (g := g) (h := g) rfl rfl rfl rfl (fun _ _ _ => rfl) hnw, Ist_c (g := g) (h := g) (r := r) hR rfl rfl (fun _ _ _ => rfl) (fun _ _ _ => rfl) rfl rfl rfl rfl (fun _ _ => rfl) (fun _ _ => rfl) (fun _ _ => rfl) rfl rfl rfl hst, Ish_c (g := g) (h := g) rfl rfl rfl rfl rfl hsh, Ila_c (g := g) (h := g) rfl rfl hla⟩
             · subst hh; rfl
             · subst hh; rfl)
    · refine o_bipush (n := 11) rfl rfl ?_
      refine o_iret rfl rfl ?_
      refine q8_of (g := g) (r := r) (fun k hk => by first | rfl | exact gset_kf (isM_ne hk (by decide)) | exact (gset_kf (isM_ne hk (by decide))).trans (gset_kf (isM_ne hk (by decide))) | exact (gset_kf (isM_ne hk (by decide))).trans ((gset_kf (isM_ne hk (by decide))).trans (gset_kf (isM_ne hk (by decide)))) | exact (gset_kf (isM_ne hk (by decide))).trans ((gset_kf (isM_ne hk (by decide))).trans ((gset_kf (isM_ne hk (by decide))).trans (gset_kf (isM_ne hk (by decide)))))) hI (fun h hh hJ => ?_)
      show Ou 147 0 [vR 8 0, vI a, vN] [] h _ _
      obtain ⟨jsg1, jsg2, jsg3⟩ := hJ.2.1
      obtain ⟨jtx1, jtx2, jtx3, jtx4⟩ := hJ.2.2.1
      have jru0 : g 7 0 10 = h 8 0 8 := hJ.2.2.2.1.1.1
      have jru1 := hJ.2.2.2.1.2.1.1
      have jwd0 : g 1 0 1 = h 8 0 14 := hJ.2.2.2.2.1.1.1
      have jwd1 := hJ.2.2.2.2.1.2.1.1
      have jwd2 := hJ.2.2.2.2.1.2.2
      have jnw0 : g 0 0 0 = h 27 0 8 := hJ.2.2.2.2.2.1.1.1
      have jnw1 : g 0 0 1 = h 28 0 8 := hJ.2.2.2.2.2.1.1.2.1
      have jnw2 := hJ.2.2.2.2.2.1.2.1
      have jnw3 := hJ.2.2.2.2.2.1.2.2.1
      have jst0 := hJ.2.2.2.2.2.2.1.1
      have jst1 := hJ.2.2.2.2.2.2.1.2.1
      have jst2 := hJ.2.2.2.2.2.2.1.2.2.1
      have jla0 : g 7 0 13 = h 8 0 4 := hJ.2.2.2.2.2.2.2.2
      refine o_iload_n (n := 1) rfl rfl rfl ?_
      refine o_i2l (n := 2) rfl rfl ?_
      refine o_lconst (n := 3) rfl rfl ?_
      refine o_ldc2_w (n := 6) rfl rfl ?_
      refine o_invsi (n := 9) rfl rfl rfl rfl rfl rfl (c8_in _ _ _) ?_
      refine o_ifb_ne (n := 12) (t := 15) rfl rfl rfl (fun k9 => ?_) (fun k9 => ?_)
      · refine o_aload_n (n := 16) rfl rfl rfl ?_
        refine of_8_17 (n := 19) hS rfl rfl ?_
        refine o_bipush (n := 21) rfl rfl ?_
        refine o_iald (n := 22) (L := 9) rfl rfl rfl rfl rfl (by omega) (by omega) ?_
        refine o_istore_2 (n := 23) rfl rfl rfl ?_
        refine o_aload_n (n := 24) rfl rfl rfl ?_
        refine of_8_17 (n := 27) hS rfl rfl ?_
        refine o_bipush (n := 29) rfl rfl ?_
        refine o_iload_n (n := 30) rfl rfl rfl ?_
        refine o_iast (n := 31) (L := 9) rfl rfl rfl rfl rfl (by omega) (by omega) ?_
        refine o_iload_n (n := 32) rfl rfl rfl ?_
        refine o_iret rfl rfl ?_
        first
          | (exfalso; omega; done)
          | (refine ⟨rfl, ?_, ?_, ?_⟩
             · subst hh; exact ⟨⟨hS, hR, h6, hP⟩, Isg_c (g := g) (h := g) rfl rfl hsg, Itx_c (g := g) (h := g) rfl rfl rfl rfl htx, Iru_c (g := g) (h := g) (r := r) (by omega) hR (fun _ _ _ => rfl) (fun _ _ _ => rfl) rfl rfl rfl rfl rfl rfl rfl rfl hru, Iwd_c (g := g) (h := g) (by omega) rfl rfl rfl rfl rfl rfl hwd, ⟨⟨rfl, hnw.1.2.1, hnw.1.2.2⟩, ⟨⟨by show 0 ≤ a; omega, by show a ≤ 2; omega⟩, hnw.2.2⟩⟩, Ist_c (g := g) (h := g) (r := r) hR rfl rfl (fun q s z => (gset_k rfl).trans (gset_i (by omega))) (fun _ _ _ => rfl) rfl rfl rfl rfl (fun k z => (gset_s (by omega)).trans (gset_k rfl)) (fun _ _ => rfl) (fun _ _ => rfl) rfl rfl rfl hst, Ish_c (g := g) (h := g) rfl rfl rfl rfl rfl hsh, Ila_c (g := g) (h := g) rfl rfl hla⟩
             · subst hh; rfl
             · subst hh; rfl)
          | (refine ⟨congrArg (fun z => some (vI z)) ?_, ?_, ?_, ?_⟩
             · omega
             · subst hh; exact ⟨⟨hS, hR, h6, hP⟩, Isg_c (g := g) (h := g) rfl rfl hsg, Itx_c (g := g) (h := g) rfl rfl rfl rfl htx, Iru_c (g := g) (h := g) (r := r) (by omega) hR (fun _ _ _ => rfl) (fun _ _ _ => rfl) rfl rfl rfl rfl rfl rfl rfl rfl hru, Iwd_c (g := g) (h := g) (by omega) rfl rfl rfl rfl rfl rfl hwd, ⟨⟨rfl, hnw.1.2.1, hnw.1.2.2⟩, ⟨⟨by show 0 ≤ a; omega, by show a ≤ 2; omega⟩, hnw.2.2⟩⟩, Ist_c (g := g) (h := g) (r := r) hR rfl rfl (fun q s z => (gset_k rfl).trans (gset_i (by omega))) (fun _ _ _ => rfl) rfl rfl rfl rfl (fun k z => (gset_s (by omega)).trans (gset_k rfl)) (fun _ _ => rfl) (fun _ _ => rfl) rfl rfl rfl hst, Ish_c (g := g) (h := g) rfl rfl rfl rfl rfl hsh, Ila_c (g := g) (h := g) rfl rfl hla⟩
             · subst hh; rfl
             · subst hh; rfl)
      · refine o_bipush (n := 14) rfl rfl ?_
        refine o_iret rfl rfl ?_
        first
          | (exfalso; omega; done)
          | (refine ⟨rfl, ?_, ?_, ?_⟩
             · subst hh; exact ⟨⟨hS, hR, h6, hP⟩, Isg_c (g := g) (h := g) rfl rfl hsg, Itx_c (g := g) (h := g) rfl rfl rfl rfl htx, Iru_c (g := g) (h := g) (r := r) (by omega) hR (fun _ _ _ => rfl) (fun _ _ _ => rfl) rfl rfl rfl rfl rfl rfl rfl rfl hru, Iwd_c (g := g) (h := g) (by omega) rfl rfl rfl rfl rfl rfl hwd, Inw_c (g := g) (h := g) rfl rfl rfl rfl (fun _ _ _ => rfl) hnw, Ist_c (g := g) (h := g) (r := r) hR rfl rfl (fun _ _ _ => rfl) (fun _ _ _ => rfl) rfl rfl rfl rfl (fun _ _ => rfl) (fun _ _ => rfl) (fun _ _ => rfl) rfl rfl rfl hst, Ish_c (g := g) (h := g) rfl rfl rfl rfl rfl hsh, Ila_c (g := g) (h := g) rfl rfl hla⟩
             · subst hh; rfl
             · subst hh; rfl)
          | (refine ⟨congrArg (fun z => some (vI z)) ?_, ?_, ?_, ?_⟩
             · omega
             · subst hh; exact ⟨⟨hS, hR, h6, hP⟩, Isg_c (g := g) (h := g) rfl rfl hsg, Itx_c (g := g) (h := g) rfl rfl rfl rfl htx, Iru_c (g := g) (h := g) (r := r) (by omega) hR (fun _ _ _ => rfl) (fun _ _ _ => rfl) rfl rfl rfl rfl rfl rfl rfl rfl hru, Iwd_c (g := g) (h := g) (by omega) rfl rfl rfl rfl rfl rfl hwd, Inw_c (g := g) (h := g) rfl rfl rfl rfl (fun _ _ _ => rfl) hnw, Ist_c (g := g) (h := g) (r := r) hR rfl rfl (fun _ _ _ => rfl) (fun _ _ _ => rfl) rfl rfl rfl rfl (fun _ _ => rfl) (fun _ _ => rfl) (fun _ _ => rfl) rfl rfl rfl hst, Ish_c (g := g) (h := g) rfl rfl rfl rfl rfl hsh, Ila_c (g := g) (h := g) rfl rfl hla⟩
             · subst hh; rfl
             · subst hh; rfl)
theorem p_size (a : Int) : Pr 54 148 [vI a] := by
  intro c g r hc0 hc1 hI
  have hI' := hI
  obtain ⟨⟨hS, hR, h6, hP⟩, hsg, htx, hru, hwd, hnw, hst, hsh, hla⟩ := hI'
  show Ou 54 0 [vR 7 0, vI a, vN] [] g r _
  obtain ⟨sg1, sg2, sg3⟩ := hI.2.1
  obtain ⟨tx1, tx2, tx3, tx4⟩ := hI.2.2.1
  have ru0 : g 7 0 10 = g 8 0 8 := hI.2.2.2.1.1.1
  have ru1 := hI.2.2.2.1.2.1.1
  have wd0 : g 1 0 1 = g 8 0 14 := hI.2.2.2.2.1.1.1
  have wd1 := hI.2.2.2.2.1.2.1.1
  have wd2 := hI.2.2.2.2.1.2.2
  have nw0 : g 0 0 0 = g 27 0 8 := hI.2.2.2.2.2.1.1.1
  have nw1 : g 0 0 1 = g 28 0 8 := hI.2.2.2.2.2.1.1.2.1
  have nw2 := hI.2.2.2.2.2.1.2.1
  have nw3 := hI.2.2.2.2.2.1.2.2.1
  have st0 := hI.2.2.2.2.2.2.1.1
  have st1 := hI.2.2.2.2.2.2.1.2.1
  have st2 := hI.2.2.2.2.2.2.1.2.2.1
  have la0 : g 7 0 13 = g 8 0 4 := hI.2.2.2.2.2.2.2.2
  refine o_iload_n (n := 1) rfl rfl rfl ?_
  refine o_iconst (n := 2) rfl rfl ?_
  refine o_icmp_lt (n := 5) (t := 10) rfl rfl rfl (fun q2 => ?_) (fun q2 => ?_)
  · refine o_bipush (n := 12) rfl rfl ?_
    refine o_iret rfl rfl ?_
    refine q8_of (g := g) (r := r) (fun k hk => by first | rfl | exact gset_kf (isM_ne hk (by decide)) | exact (gset_kf (isM_ne hk (by decide))).trans (gset_kf (isM_ne hk (by decide))) | exact (gset_kf (isM_ne hk (by decide))).trans ((gset_kf (isM_ne hk (by decide))).trans (gset_kf (isM_ne hk (by decide)))) | exact (gset_kf (isM_ne hk (by decide))).trans ((gset_kf (isM_ne hk (by decide))).trans ((gset_kf (isM_ne hk (by decide))).trans (gset_kf (isM_ne hk (by decide)))))) hI (fun h hh hJ => ?_)
    show Ou 148 0 [vR 8 0, vI a, vN] [] h _ _
    obtain ⟨jsg1, jsg2, jsg3⟩ := hJ.2.1
    obtain ⟨jtx1, jtx2, jtx3, jtx4⟩ := hJ.2.2.1
    have jru0 : g 7 0 10 = h 8 0 8 := hJ.2.2.2.1.1.1
    have jru1 := hJ.2.2.2.1.2.1.1
    have jwd0 : g 1 0 1 = h 8 0 14 := hJ.2.2.2.2.1.1.1
    have jwd1 := hJ.2.2.2.2.1.2.1.1
    have jwd2 := hJ.2.2.2.2.1.2.2
    have jnw0 : g 0 0 0 = h 27 0 8 := hJ.2.2.2.2.2.1.1.1
    have jnw1 : g 0 0 1 = h 28 0 8 := hJ.2.2.2.2.2.1.1.2.1
    have jnw2 := hJ.2.2.2.2.2.1.2.1
    have jnw3 := hJ.2.2.2.2.2.1.2.2.1
    have jst0 := hJ.2.2.2.2.2.2.1.1
    have jst1 := hJ.2.2.2.2.2.2.1.2.1
    have jst2 := hJ.2.2.2.2.2.2.1.2.2.1
    have jla0 : g 7 0 13 = h 8 0 4 := hJ.2.2.2.2.2.2.2.2
    refine o_iload_n (n := 1) rfl rfl rfl ?_
    refine o_i2l (n := 2) rfl rfl ?_
    refine o_lconst (n := 3) rfl rfl ?_
    refine o_ldc2_w (n := 6) rfl rfl ?_
    refine o_invsi (n := 9) rfl rfl rfl rfl rfl rfl (c8_in _ _ _) ?_
    refine o_ifb_ne (n := 12) (t := 15) rfl rfl rfl (fun k9 => ?_) (fun k9 => ?_)
    · refine o_aload_n (n := 16) rfl rfl rfl ?_
      refine of_8_18 (n := 19) hS rfl rfl ?_
      refine o_bipush (n := 21) rfl rfl ?_
      refine o_iald (n := 22) (L := 9) rfl rfl rfl rfl rfl (by omega) (by omega) ?_
      refine o_istore_2 (n := 23) rfl rfl rfl ?_
      refine o_aload_n (n := 24) rfl rfl rfl ?_
      refine of_8_18 (n := 27) hS rfl rfl ?_
      refine o_bipush (n := 29) rfl rfl ?_
      refine o_iload_n (n := 30) rfl rfl rfl ?_
      refine o_iast (n := 31) (L := 9) rfl rfl rfl rfl rfl (by omega) (by omega) ?_
      refine o_iload_n (n := 32) rfl rfl rfl ?_
      refine o_iret rfl rfl ?_
      first
        | (exfalso; omega; done)
        | (refine ⟨rfl, ?_, ?_, ?_⟩
           · subst hh; exact ⟨⟨hS, hR, h6, hP⟩, Isg_c (g := g) (h := g) rfl rfl hsg, Itx_c (g := g) (h := g) rfl rfl rfl rfl htx, Iru_c (g := g) (h := g) (r := r) (by omega) hR (fun _ _ _ => rfl) (fun _ _ _ => rfl) rfl rfl rfl rfl rfl rfl rfl rfl hru, Iwd_c (g := g) (h := g) (by omega) rfl rfl rfl rfl rfl rfl hwd, ⟨⟨hnw.1.1, rfl, hnw.1.2.2⟩, ⟨hnw.2.1, ⟨by show 1 ≤ a; omega, by show a ≤ 3; omega⟩, hnw.2.2.2⟩⟩, Ist_c (g := g) (h := g) (r := r) hR rfl rfl (fun q s z => (gset_k rfl).trans (gset_i (by omega))) (fun _ _ _ => rfl) rfl rfl rfl rfl (fun _ _ => rfl) (fun k z => (gset_s (by omega)).trans (gset_k rfl)) (fun _ _ => rfl) rfl rfl rfl hst, Ish_c (g := g) (h := g) rfl rfl rfl rfl rfl hsh, Ila_c (g := g) (h := g) rfl rfl hla⟩
           · subst hh; rfl
           · subst hh; rfl)
        | (refine ⟨congrArg (fun z => some (vI z)) ?_, ?_, ?_, ?_⟩
           · omega
           · subst hh; exact ⟨⟨hS, hR, h6, hP⟩, Isg_c (g := g) (h := g) rfl rfl hsg, Itx_c (g := g) (h := g) rfl rfl rfl rfl htx, Iru_c (g := g) (h := g) (r := r) (by omega) hR (fun _ _ _ => rfl) (fun _ _ _ => rfl) rfl rfl rfl rfl rfl rfl rfl rfl hru, Iwd_c (g := g) (h := g) (by omega) rfl rfl rfl rfl rfl rfl hwd, ⟨⟨hnw.1.1, rfl, hnw.1.2.2⟩, ⟨hnw.2.1, ⟨by show 1 ≤ a; omega, by show a ≤ 3; omega⟩, hnw.2.2.2⟩⟩, Ist_c (g := g) (h := g) (r := r) hR rfl rfl (fun q s z => (gset_k rfl).trans (gset_i (by omega))) (fun _ _ _ => rfl) rfl rfl rfl rfl (fun _ _ => rfl) (fun k z => (gset_s (by omega)).trans (gset_k rfl)) (fun _ _ => rfl) rfl rfl rfl hst, Ish_c (g := g) (h := g) rfl rfl rfl rfl rfl hsh, Ila_c (g := g) (h := g) rfl rfl hla⟩
           · subst hh; rfl
           · subst hh; rfl)
    · refine o_bipush (n := 14) rfl rfl ?_
      refine o_iret rfl rfl ?_
      first
        | (exfalso; omega; done)
        | (refine ⟨rfl, ?_, ?_, ?_⟩
           · subst hh; exact ⟨⟨hS, hR, h6, hP⟩, Isg_c (g := g) (h := g) rfl rfl hsg, Itx_c (g := g) (h := g) rfl rfl rfl rfl htx, Iru_c (g := g) (h := g) (r := r) (by omega) hR (fun _ _ _ => rfl) (fun _ _ _ => rfl) rfl rfl rfl rfl rfl rfl rfl rfl hru, Iwd_c (g := g) (h := g) (by omega) rfl rfl rfl rfl rfl rfl hwd, Inw_c (g := g) (h := g) rfl rfl rfl rfl (fun _ _ _ => rfl) hnw, Ist_c (g := g) (h := g) (r := r) hR rfl rfl (fun _ _ _ => rfl) (fun _ _ _ => rfl) rfl rfl rfl rfl (fun _ _ => rfl) (fun _ _ => rfl) (fun _ _ => rfl) rfl rfl rfl hst, Ish_c (g := g) (h := g) rfl rfl rfl rfl rfl hsh, Ila_c (g := g) (h := g) rfl rfl hla⟩
           · subst hh; rfl
           · subst hh; rfl)
        | (refine ⟨congrArg (fun z => some (vI z)) ?_, ?_, ?_, ?_⟩
           · omega
           · subst hh; exact ⟨⟨hS, hR, h6, hP⟩, Isg_c (g := g) (h := g) rfl rfl hsg, Itx_c (g := g) (h := g) rfl rfl rfl rfl htx, Iru_c (g := g) (h := g) (r := r) (by omega) hR (fun _ _ _ => rfl) (fun _ _ _ => rfl) rfl rfl rfl rfl rfl rfl rfl rfl hru, Iwd_c (g := g) (h := g) (by omega) rfl rfl rfl rfl rfl rfl hwd, Inw_c (g := g) (h := g) rfl rfl rfl rfl (fun _ _ _ => rfl) hnw, Ist_c (g := g) (h := g) (r := r) hR rfl rfl (fun _ _ _ => rfl) (fun _ _ _ => rfl) rfl rfl rfl rfl (fun _ _ => rfl) (fun _ _ => rfl) (fun _ _ => rfl) rfl rfl rfl hst, Ish_c (g := g) (h := g) rfl rfl rfl rfl rfl hsh, Ila_c (g := g) (h := g) rfl rfl hla⟩
           · subst hh; rfl
           · subst hh; rfl)
  · refine o_iload_n (n := 6) rfl rfl rfl ?_
    refine o_iconst (n := 7) rfl rfl ?_
    refine o_icmp_le (n := 10) (t := 13) rfl rfl rfl (fun q7 => ?_) (fun q7 => ?_)
    · refine o_aload_n (n := 14) rfl rfl rfl ?_
      refine of_7_5 (n := 17) hS rfl rfl ?_
      refine o_geti (n := 20) rfl rfl rfl (ok_0 (by omega) (by omega)) rfl ?_
      refine o_istore_2 (n := 21) rfl rfl rfl ?_
      refine o_aload_n (n := 22) rfl rfl rfl ?_
      refine of_7_5 (n := 25) hS rfl rfl ?_
      refine o_iload_n (n := 26) rfl rfl rfl ?_
      refine o_puti (n := 29) rfl rfl rfl (ok_0 (by omega) (by omega)) rfl ?_
      refine o_iload_n (n := 30) rfl rfl rfl ?_
      refine o_iret rfl rfl ?_
      refine q8_of (g := g) (r := r) (fun k hk => by first | rfl | exact gset_kf (isM_ne hk (by decide)) | exact (gset_kf (isM_ne hk (by decide))).trans (gset_kf (isM_ne hk (by decide))) | exact (gset_kf (isM_ne hk (by decide))).trans ((gset_kf (isM_ne hk (by decide))).trans (gset_kf (isM_ne hk (by decide)))) | exact (gset_kf (isM_ne hk (by decide))).trans ((gset_kf (isM_ne hk (by decide))).trans ((gset_kf (isM_ne hk (by decide))).trans (gset_kf (isM_ne hk (by decide)))))) hI (fun h hh hJ => ?_)
      show Ou 148 0 [vR 8 0, vI a, vN] [] h _ _
      obtain ⟨jsg1, jsg2, jsg3⟩ := hJ.2.1
      obtain ⟨jtx1, jtx2, jtx3, jtx4⟩ := hJ.2.2.1
      have jru0 : g 7 0 10 = h 8 0 8 := hJ.2.2.2.1.1.1
      have jru1 := hJ.2.2.2.1.2.1.1
      have jwd0 : g 1 0 1 = h 8 0 14 := hJ.2.2.2.2.1.1.1
      have jwd1 := hJ.2.2.2.2.1.2.1.1
      have jwd2 := hJ.2.2.2.2.1.2.2
      have jnw0 : g 0 0 0 = h 27 0 8 := hJ.2.2.2.2.2.1.1.1
      have jnw1 : g 0 0 1 = h 28 0 8 := hJ.2.2.2.2.2.1.1.2.1
      have jnw2 := hJ.2.2.2.2.2.1.2.1
      have jnw3 := hJ.2.2.2.2.2.1.2.2.1
      have jst0 := hJ.2.2.2.2.2.2.1.1
      have jst1 := hJ.2.2.2.2.2.2.1.2.1
      have jst2 := hJ.2.2.2.2.2.2.1.2.2.1
      have jla0 : g 7 0 13 = h 8 0 4 := hJ.2.2.2.2.2.2.2.2
      refine o_iload_n (n := 1) rfl rfl rfl ?_
      refine o_i2l (n := 2) rfl rfl ?_
      refine o_lconst (n := 3) rfl rfl ?_
      refine o_ldc2_w (n := 6) rfl rfl ?_
      refine o_invsi (n := 9) rfl rfl rfl rfl rfl rfl (c8_in _ _ _) ?_
      refine o_ifb_ne (n := 12) (t := 15) rfl rfl rfl (fun k9 => ?_) (fun k9 => ?_)
      · refine o_aload_n (n := 16) rfl rfl rfl ?_
        refine of_8_18 (n := 19) hS rfl rfl ?_
        refine o_bipush (n := 21) rfl rfl ?_
        refine o_iald (n := 22) (L := 9) rfl rfl rfl rfl rfl (by omega) (by omega) ?_
        refine o_istore_2 (n := 23) rfl rfl rfl ?_
        refine o_aload_n (n := 24) rfl rfl rfl ?_
        refine of_8_18 (n := 27) hS rfl rfl ?_
        refine o_bipush (n := 29) rfl rfl ?_
        refine o_iload_n (n := 30) rfl rfl rfl ?_
        refine o_iast (n := 31) (L := 9) rfl rfl rfl rfl rfl (by omega) (by omega) ?_
        refine o_iload_n (n := 32) rfl rfl rfl ?_
        refine o_iret rfl rfl ?_
        first
          | (exfalso; omega; done)
          | (refine ⟨rfl, ?_, ?_, ?_⟩
             · subst hh; exact ⟨⟨hS, hR, h6, hP⟩, Isg_c (g := g) (h := g) rfl rfl hsg, Itx_c (g := g) (h := g) rfl rfl rfl rfl htx, Iru_c (g := g) (h := g) (r := r) (by omega) hR (fun _ _ _ => rfl) (fun _ _ _ => rfl) rfl rfl rfl rfl rfl rfl rfl rfl hru, Iwd_c (g := g) (h := g) (by omega) rfl rfl rfl rfl rfl rfl hwd, ⟨⟨hnw.1.1, rfl, hnw.1.2.2⟩, ⟨hnw.2.1, ⟨by show 1 ≤ a; omega, by show a ≤ 3; omega⟩, hnw.2.2.2⟩⟩, Ist_c (g := g) (h := g) (r := r) hR rfl rfl (fun q s z => (gset_k rfl).trans (gset_i (by omega))) (fun _ _ _ => rfl) rfl rfl rfl rfl (fun _ _ => rfl) (fun k z => (gset_s (by omega)).trans (gset_k rfl)) (fun _ _ => rfl) rfl rfl rfl hst, Ish_c (g := g) (h := g) rfl rfl rfl rfl rfl hsh, Ila_c (g := g) (h := g) rfl rfl hla⟩
             · subst hh; rfl
             · subst hh; rfl)
          | (refine ⟨congrArg (fun z => some (vI z)) ?_, ?_, ?_, ?_⟩
             · omega
             · subst hh; exact ⟨⟨hS, hR, h6, hP⟩, Isg_c (g := g) (h := g) rfl rfl hsg, Itx_c (g := g) (h := g) rfl rfl rfl rfl htx, Iru_c (g := g) (h := g) (r := r) (by omega) hR (fun _ _ _ => rfl) (fun _ _ _ => rfl) rfl rfl rfl rfl rfl rfl rfl rfl hru, Iwd_c (g := g) (h := g) (by omega) rfl rfl rfl rfl rfl rfl hwd, ⟨⟨hnw.1.1, rfl, hnw.1.2.2⟩, ⟨hnw.2.1, ⟨by show 1 ≤ a; omega, by show a ≤ 3; omega⟩, hnw.2.2.2⟩⟩, Ist_c (g := g) (h := g) (r := r) hR rfl rfl (fun q s z => (gset_k rfl).trans (gset_i (by omega))) (fun _ _ _ => rfl) rfl rfl rfl rfl (fun _ _ => rfl) (fun k z => (gset_s (by omega)).trans (gset_k rfl)) (fun _ _ => rfl) rfl rfl rfl hst, Ish_c (g := g) (h := g) rfl rfl rfl rfl rfl hsh, Ila_c (g := g) (h := g) rfl rfl hla⟩
             · subst hh; rfl
             · subst hh; rfl)
      · refine o_bipush (n := 14) rfl rfl ?_
        refine o_iret rfl rfl ?_
        first
          | (exfalso; omega; done)
          | (refine ⟨rfl, ?_, ?_, ?_⟩
             · subst hh; exact ⟨⟨hS, hR, h6, hP⟩, Isg_c (g := g) (h := g) rfl rfl hsg, Itx_c (g := g) (h := g) rfl rfl rfl rfl htx, Iru_c (g := g) (h := g) (r := r) (by omega) hR (fun _ _ _ => rfl) (fun _ _ _ => rfl) rfl rfl rfl rfl rfl rfl rfl rfl hru, Iwd_c (g := g) (h := g) (by omega) rfl rfl rfl rfl rfl rfl hwd, Inw_c (g := g) (h := g) rfl rfl rfl rfl (fun _ _ _ => rfl) hnw, Ist_c (g := g) (h := g) (r := r) hR rfl rfl (fun _ _ _ => rfl) (fun _ _ _ => rfl) rfl rfl rfl rfl (fun _ _ => rfl) (fun _ _ => rfl) (fun _ _ => rfl) rfl rfl rfl hst, Ish_c (g := g) (h := g) rfl rfl rfl rfl rfl hsh, Ila_c (g := g) (h := g) rfl rfl hla⟩
             · subst hh; rfl
             · subst hh; rfl)
          | (refine ⟨congrArg (fun z => some (vI z)) ?_, ?_, ?_, ?_⟩
             · omega
             · subst hh; exact ⟨⟨hS, hR, h6, hP⟩, Isg_c (g := g) (h := g) rfl rfl hsg, Itx_c (g := g) (h := g) rfl rfl rfl rfl htx, Iru_c (g := g) (h := g) (r := r) (by omega) hR (fun _ _ _ => rfl) (fun _ _ _ => rfl) rfl rfl rfl rfl rfl rfl rfl rfl hru, Iwd_c (g := g) (h := g) (by omega) rfl rfl rfl rfl rfl rfl hwd, Inw_c (g := g) (h := g) rfl rfl rfl rfl (fun _ _ _ => rfl) hnw, Ist_c (g := g) (h := g) (r := r) hR rfl rfl (fun _ _ _ => rfl) (fun _ _ _ => rfl) rfl rfl rfl rfl (fun _ _ => rfl) (fun _ _ => rfl) (fun _ _ => rfl) rfl rfl rfl hst, Ish_c (g := g) (h := g) rfl rfl rfl rfl rfl hsh, Ila_c (g := g) (h := g) rfl rfl hla⟩
             · subst hh; rfl
             · subst hh; rfl)
    · refine o_bipush (n := 12) rfl rfl ?_
      refine o_iret rfl rfl ?_
      refine q8_of (g := g) (r := r) (fun k hk => by first | rfl | exact gset_kf (isM_ne hk (by decide)) | exact (gset_kf (isM_ne hk (by decide))).trans (gset_kf (isM_ne hk (by decide))) | exact (gset_kf (isM_ne hk (by decide))).trans ((gset_kf (isM_ne hk (by decide))).trans (gset_kf (isM_ne hk (by decide)))) | exact (gset_kf (isM_ne hk (by decide))).trans ((gset_kf (isM_ne hk (by decide))).trans ((gset_kf (isM_ne hk (by decide))).trans (gset_kf (isM_ne hk (by decide)))))) hI (fun h hh hJ => ?_)
      show Ou 148 0 [vR 8 0, vI a, vN] [] h _ _
      obtain ⟨jsg1, jsg2, jsg3⟩ := hJ.2.1
      obtain ⟨jtx1, jtx2, jtx3, jtx4⟩ := hJ.2.2.1
      have jru0 : g 7 0 10 = h 8 0 8 := hJ.2.2.2.1.1.1
      have jru1 := hJ.2.2.2.1.2.1.1
      have jwd0 : g 1 0 1 = h 8 0 14 := hJ.2.2.2.2.1.1.1
      have jwd1 := hJ.2.2.2.2.1.2.1.1
      have jwd2 := hJ.2.2.2.2.1.2.2
      have jnw0 : g 0 0 0 = h 27 0 8 := hJ.2.2.2.2.2.1.1.1
      have jnw1 : g 0 0 1 = h 28 0 8 := hJ.2.2.2.2.2.1.1.2.1
      have jnw2 := hJ.2.2.2.2.2.1.2.1
      have jnw3 := hJ.2.2.2.2.2.1.2.2.1
      have jst0 := hJ.2.2.2.2.2.2.1.1
      have jst1 := hJ.2.2.2.2.2.2.1.2.1
      have jst2 := hJ.2.2.2.2.2.2.1.2.2.1
      have jla0 : g 7 0 13 = h 8 0 4 := hJ.2.2.2.2.2.2.2.2
      refine o_iload_n (n := 1) rfl rfl rfl ?_
      refine o_i2l (n := 2) rfl rfl ?_
      refine o_lconst (n := 3) rfl rfl ?_
      refine o_ldc2_w (n := 6) rfl rfl ?_
      refine o_invsi (n := 9) rfl rfl rfl rfl rfl rfl (c8_in _ _ _) ?_
      refine o_ifb_ne (n := 12) (t := 15) rfl rfl rfl (fun k9 => ?_) (fun k9 => ?_)
      · refine o_aload_n (n := 16) rfl rfl rfl ?_
        refine of_8_18 (n := 19) hS rfl rfl ?_
        refine o_bipush (n := 21) rfl rfl ?_
        refine o_iald (n := 22) (L := 9) rfl rfl rfl rfl rfl (by omega) (by omega) ?_
        refine o_istore_2 (n := 23) rfl rfl rfl ?_
        refine o_aload_n (n := 24) rfl rfl rfl ?_
        refine of_8_18 (n := 27) hS rfl rfl ?_
        refine o_bipush (n := 29) rfl rfl ?_
        refine o_iload_n (n := 30) rfl rfl rfl ?_
        refine o_iast (n := 31) (L := 9) rfl rfl rfl rfl rfl (by omega) (by omega) ?_
        refine o_iload_n (n := 32) rfl rfl rfl ?_
        refine o_iret rfl rfl ?_
        first
          | (exfalso; omega; done)
          | (refine ⟨rfl, ?_, ?_, ?_⟩
             · subst hh; exact ⟨⟨hS, hR, h6, hP⟩, Isg_c (g := g) (h := g) rfl rfl hsg, Itx_c (g := g) (h := g) rfl rfl rfl rfl htx, Iru_c (g := g) (h := g) (r := r) (by omega) hR (fun _ _ _ => rfl) (fun _ _ _ => rfl) rfl rfl rfl rfl rfl rfl rfl rfl hru, Iwd_c (g := g) (h := g) (by omega) rfl rfl rfl rfl rfl rfl hwd, ⟨⟨hnw.1.1, rfl, hnw.1.2.2⟩, ⟨hnw.2.1, ⟨by show 1 ≤ a; omega, by show a ≤ 3; omega⟩, hnw.2.2.2⟩⟩, Ist_c (g := g) (h := g) (r := r) hR rfl rfl (fun q s z => (gset_k rfl).trans (gset_i (by omega))) (fun _ _ _ => rfl) rfl rfl rfl rfl (fun _ _ => rfl) (fun k z => (gset_s (by omega)).trans (gset_k rfl)) (fun _ _ => rfl) rfl rfl rfl hst, Ish_c (g := g) (h := g) rfl rfl rfl rfl rfl hsh, Ila_c (g := g) (h := g) rfl rfl hla⟩
             · subst hh; rfl
             · subst hh; rfl)
          | (refine ⟨congrArg (fun z => some (vI z)) ?_, ?_, ?_, ?_⟩
             · omega
             · subst hh; exact ⟨⟨hS, hR, h6, hP⟩, Isg_c (g := g) (h := g) rfl rfl hsg, Itx_c (g := g) (h := g) rfl rfl rfl rfl htx, Iru_c (g := g) (h := g) (r := r) (by omega) hR (fun _ _ _ => rfl) (fun _ _ _ => rfl) rfl rfl rfl rfl rfl rfl rfl rfl hru, Iwd_c (g := g) (h := g) (by omega) rfl rfl rfl rfl rfl rfl hwd, ⟨⟨hnw.1.1, rfl, hnw.1.2.2⟩, ⟨hnw.2.1, ⟨by show 1 ≤ a; omega, by show a ≤ 3; omega⟩, hnw.2.2.2⟩⟩, Ist_c (g := g) (h := g) (r := r) hR rfl rfl (fun q s z => (gset_k rfl).trans (gset_i (by omega))) (fun _ _ _ => rfl) rfl rfl rfl rfl (fun _ _ => rfl) (fun k z => (gset_s (by omega)).trans (gset_k rfl)) (fun _ _ => rfl) rfl rfl rfl hst, Ish_c (g := g) (h := g) rfl rfl rfl rfl rfl hsh, Ila_c (g := g) (h := g) rfl rfl hla⟩
             · subst hh; rfl
             · subst hh; rfl)
      · refine o_bipush (n := 14) rfl rfl ?_
        refine o_iret rfl rfl ?_
        first
          | (exfalso; omega; done)
          | (refine ⟨rfl, ?_, ?_, ?_⟩
             · subst hh; exact ⟨⟨hS, hR, h6, hP⟩, Isg_c (g := g) (h := g) rfl rfl hsg, Itx_c (g := g) (h := g) rfl rfl rfl rfl htx, Iru_c (g := g) (h := g) (r := r) (by omega) hR (fun _ _ _ => rfl) (fun _ _ _ => rfl) rfl rfl rfl rfl rfl rfl rfl rfl hru, Iwd_c (g := g) (h := g) (by omega) rfl rfl rfl rfl rfl rfl hwd, Inw_c (g := g) (h := g) rfl rfl rfl rfl (fun _ _ _ => rfl) hnw, Ist_c (g := g) (h := g) (r := r) hR rfl rfl (fun _ _ _ => rfl) (fun _ _ _ => rfl) rfl rfl rfl rfl (fun _ _ => rfl) (fun _ _ => rfl) (fun _ _ => rfl) rfl rfl rfl hst, Ish_c (g := g) (h := g) rfl rfl rfl rfl rfl hsh, Ila_c (g := g) (h := g) rfl rfl hla⟩
             · subst hh; rfl
             · subst hh; rfl)
          | (refine ⟨congrArg (fun z => some (vI z)) ?_, ?_, ?_, ?_⟩
             · omega
             · subst hh; exact ⟨⟨hS, hR, h6, hP⟩, Isg_c (g := g) (h := g) rfl rfl hsg, Itx_c (g := g) (h := g) rfl rfl rfl rfl htx, Iru_c (g := g) (h := g) (r := r) (by omega) hR (fun _ _ _ => rfl) (fun _ _ _ => rfl) rfl rfl rfl rfl rfl rfl rfl rfl hru, Iwd_c (g := g) (h := g) (by omega) rfl rfl rfl rfl rfl rfl hwd, Inw_c (g := g) (h := g) rfl rfl rfl rfl (fun _ _ _ => rfl) hnw, Ist_c (g := g) (h := g) (r := r) hR rfl rfl (fun _ _ _ => rfl) (fun _ _ _ => rfl) rfl rfl rfl rfl (fun _ _ => rfl) (fun _ _ => rfl) (fun _ _ => rfl) rfl rfl rfl hst, Ish_c (g := g) (h := g) rfl rfl rfl rfl rfl hsh, Ila_c (g := g) (h := g) rfl rfl hla⟩
             · subst hh; rfl
             · subst hh; rfl)
theorem p_back  : Pr 61 160 [] := by
  intro c g r hc0 hc1 hI
  have hI' := hI
  obtain ⟨⟨hS, hR, h6, hP⟩, hsg, htx, hru, hwd, hnw, hst, hsh, hla⟩ := hI'
  show Ou 61 0 [vR 7 0] [] g r _
  obtain ⟨sg1, sg2, sg3⟩ := hI.2.1
  obtain ⟨tx1, tx2, tx3, tx4⟩ := hI.2.2.1
  have ru0 : g 7 0 10 = g 8 0 8 := hI.2.2.2.1.1.1
  have ru1 := hI.2.2.2.1.2.1.1
  have wd0 : g 1 0 1 = g 8 0 14 := hI.2.2.2.2.1.1.1
  have wd1 := hI.2.2.2.2.1.2.1.1
  have wd2 := hI.2.2.2.2.1.2.2
  have nw0 : g 0 0 0 = g 27 0 8 := hI.2.2.2.2.2.1.1.1
  have nw1 : g 0 0 1 = g 28 0 8 := hI.2.2.2.2.2.1.1.2.1
  have nw2 := hI.2.2.2.2.2.1.2.1
  have nw3 := hI.2.2.2.2.2.1.2.2.1
  have st0 := hI.2.2.2.2.2.2.1.1
  have st1 := hI.2.2.2.2.2.2.1.2.1
  have st2 := hI.2.2.2.2.2.2.1.2.2.1
  have la0 : g 7 0 13 = g 8 0 4 := hI.2.2.2.2.2.2.2.2
  refine o_aload_n (n := 1) rfl rfl rfl ?_
  refine o_geti (n := 4) rfl rfl rfl rfl rfl ?_
  refine o_if_ne (n := 7) (t := 10) rfl rfl rfl (fun q4 => ?_) (fun q4 => ?_)
  · refine o_aload_n (n := 11) rfl rfl rfl ?_
    refine o_dup (n := 12) rfl rfl rfl ?_
    refine o_geti (n := 15) rfl rfl rfl rfl rfl ?_
    refine o_iconst (n := 16) rfl rfl ?_
    refine o_isub (n := 17) rfl rfl (by omega) ?_
    refine o_puti (n := 20) rfl rfl rfl rfl rfl ?_
    refine o_aload_n (n := 21) rfl rfl rfl ?_
    refine o_geti (n := 24) rfl rfl rfl rfl rfl ?_
    try first | rw [gset_at] | rw [gset_k rfl] | rw [gset_s (by decide)]
    try first | rw [gset_at] | rw [gset_k rfl] | rw [gset_s (by decide)]
    refine o_iret rfl rfl ?_
    refine q8_of (g := g) (r := r) (fun k hk => by first | rfl | exact gset_kf (isM_ne hk (by decide)) | exact (gset_kf (isM_ne hk (by decide))).trans (gset_kf (isM_ne hk (by decide))) | exact (gset_kf (isM_ne hk (by decide))).trans ((gset_kf (isM_ne hk (by decide))).trans (gset_kf (isM_ne hk (by decide)))) | exact (gset_kf (isM_ne hk (by decide))).trans ((gset_kf (isM_ne hk (by decide))).trans ((gset_kf (isM_ne hk (by decide))).trans (gset_kf (isM_ne hk (by decide)))))) hI (fun h hh hJ => ?_)
    show Ou 160 0 [vR 8 0] [] h _ _
    obtain ⟨jsg1, jsg2, jsg3⟩ := hJ.2.1
    obtain ⟨jtx1, jtx2, jtx3, jtx4⟩ := hJ.2.2.1
    have jru0 : g 7 0 10 = h 8 0 8 := hJ.2.2.2.1.1.1
    have jru1 := hJ.2.2.2.1.2.1.1
    have jwd0 : g 1 0 1 = h 8 0 14 := hJ.2.2.2.2.1.1.1
    have jwd1 := hJ.2.2.2.2.1.2.1.1
    have jwd2 := hJ.2.2.2.2.1.2.2
    have jnw0 : g 0 0 0 = h 27 0 8 := hJ.2.2.2.2.2.1.1.1
    have jnw1 : g 0 0 1 = h 28 0 8 := hJ.2.2.2.2.2.1.1.2.1
    have jnw2 := hJ.2.2.2.2.2.1.2.1
    have jnw3 := hJ.2.2.2.2.2.1.2.2.1
    have jst0 := hJ.2.2.2.2.2.2.1.1
    have jst1 := hJ.2.2.2.2.2.2.1.2.1
    have jst2 := hJ.2.2.2.2.2.2.1.2.2.1
    have jla0 : g 7 0 13 = h 8 0 4 := hJ.2.2.2.2.2.2.2.2
    refine o_aload_n (n := 1) rfl rfl rfl ?_
    refine o_geti (n := 4) rfl rfl rfl rfl rfl ?_
    refine o_if_ne (n := 7) (t := 10) rfl rfl rfl (fun k4 => ?_) (fun k4 => ?_)
    · refine o_aload_n (n := 11) rfl rfl rfl ?_
      refine o_dup (n := 12) rfl rfl rfl ?_
      refine o_geti (n := 15) rfl rfl rfl rfl rfl ?_
      refine o_iconst (n := 16) rfl rfl ?_
      refine o_isub (n := 17) rfl rfl (by omega) ?_
      refine o_puti (n := 20) rfl rfl rfl rfl rfl ?_
      refine o_aload_n (n := 21) rfl rfl rfl ?_
      refine o_geti (n := 24) rfl rfl rfl rfl rfl ?_
      try first | rw [gset_at] | rw [gset_k rfl] | rw [gset_s (by decide)]
      try first | rw [gset_at] | rw [gset_k rfl] | rw [gset_s (by decide)]
      refine o_iret rfl rfl ?_
      first
        | (exfalso; omega; done)
        | (refine ⟨rfl, ?_, ?_, ?_⟩
           · subst hh; exact ⟨⟨hS, hR, h6, hP⟩, Isg_c (g := g) (h := g) rfl rfl hsg, Itx_c (g := g) (h := g) rfl rfl rfl rfl htx, Iru_c (g := g) (h := g) (r := r) (by omega) hR (fun _ _ _ => rfl) (fun _ _ _ => rfl) rfl rfl rfl rfl rfl rfl rfl rfl hru, Iwd_c (g := g) (h := g) (by omega) rfl rfl rfl rfl rfl rfl hwd, Inw_c (g := g) (h := g) rfl rfl rfl rfl (fun _ _ _ => rfl) hnw, ⟨by show g 7 0 11 - 1 = g 8 0 19 - 1; omega, by show 0 ≤ g 8 0 19 - 1; omega, by show g 8 0 19 - 1 ≤ 8; omega, fun k k0 k1 => hst.2.2.2 k k0 (by have k1 : k < g 8 0 19 - 1 := k1; omega)⟩, Ish_c (g := g) (h := g) rfl rfl rfl rfl rfl hsh, Ila_c (g := g) (h := g) rfl rfl hla⟩
           · subst hh; rfl
           · subst hh; rfl)
        | (refine ⟨congrArg (fun z => some (vI z)) ?_, ?_, ?_, ?_⟩
           · omega
           · subst hh; exact ⟨⟨hS, hR, h6, hP⟩, Isg_c (g := g) (h := g) rfl rfl hsg, Itx_c (g := g) (h := g) rfl rfl rfl rfl htx, Iru_c (g := g) (h := g) (r := r) (by omega) hR (fun _ _ _ => rfl) (fun _ _ _ => rfl) rfl rfl rfl rfl rfl rfl rfl rfl hru, Iwd_c (g := g) (h := g) (by omega) rfl rfl rfl rfl rfl rfl hwd, Inw_c (g := g) (h := g) rfl rfl rfl rfl (fun _ _ _ => rfl) hnw, ⟨by show g 7 0 11 - 1 = g 8 0 19 - 1; omega, by show 0 ≤ g 8 0 19 - 1; omega, by show g 8 0 19 - 1 ≤ 8; omega, fun k k0 k1 => hst.2.2.2 k k0 (by have k1 : k < g 8 0 19 - 1 := k1; omega)⟩, Ish_c (g := g) (h := g) rfl rfl rfl rfl rfl hsh, Ila_c (g := g) (h := g) rfl rfl hla⟩
           · subst hh; rfl
           · subst hh; rfl)
    · refine o_bipush (n := 9) rfl rfl ?_
      refine o_iret rfl rfl ?_
      first
        | (exfalso; omega; done)
        | (refine ⟨rfl, ?_, ?_, ?_⟩
           · subst hh; exact ⟨⟨hS, hR, h6, hP⟩, Isg_c (g := g) (h := g) rfl rfl hsg, Itx_c (g := g) (h := g) rfl rfl rfl rfl htx, Iru_c (g := g) (h := g) (r := r) (by omega) hR (fun _ _ _ => rfl) (fun _ _ _ => rfl) rfl rfl rfl rfl rfl rfl rfl rfl hru, Iwd_c (g := g) (h := g) (by omega) rfl rfl rfl rfl rfl rfl hwd, Inw_c (g := g) (h := g) rfl rfl rfl rfl (fun _ _ _ => rfl) hnw, Ist_c (g := g) (h := g) (r := r) hR rfl rfl (fun _ _ _ => rfl) (fun _ _ _ => rfl) rfl rfl rfl rfl (fun _ _ => rfl) (fun _ _ => rfl) (fun _ _ => rfl) rfl rfl rfl hst, Ish_c (g := g) (h := g) rfl rfl rfl rfl rfl hsh, Ila_c (g := g) (h := g) rfl rfl hla⟩
           · subst hh; rfl
           · subst hh; rfl)
        | (refine ⟨congrArg (fun z => some (vI z)) ?_, ?_, ?_, ?_⟩
           · omega
           · subst hh; exact ⟨⟨hS, hR, h6, hP⟩, Isg_c (g := g) (h := g) rfl rfl hsg, Itx_c (g := g) (h := g) rfl rfl rfl rfl htx, Iru_c (g := g) (h := g) (r := r) (by omega) hR (fun _ _ _ => rfl) (fun _ _ _ => rfl) rfl rfl rfl rfl rfl rfl rfl rfl hru, Iwd_c (g := g) (h := g) (by omega) rfl rfl rfl rfl rfl rfl hwd, Inw_c (g := g) (h := g) rfl rfl rfl rfl (fun _ _ _ => rfl) hnw, Ist_c (g := g) (h := g) (r := r) hR rfl rfl (fun _ _ _ => rfl) (fun _ _ _ => rfl) rfl rfl rfl rfl (fun _ _ => rfl) (fun _ _ => rfl) (fun _ _ => rfl) rfl rfl rfl hst, Ish_c (g := g) (h := g) rfl rfl rfl rfl rfl hsh, Ila_c (g := g) (h := g) rfl rfl hla⟩
           · subst hh; rfl
           · subst hh; rfl)
  · refine o_bipush (n := 9) rfl rfl ?_
    refine o_iret rfl rfl ?_
    refine q8_of (g := g) (r := r) (fun k hk => by first | rfl | exact gset_kf (isM_ne hk (by decide)) | exact (gset_kf (isM_ne hk (by decide))).trans (gset_kf (isM_ne hk (by decide))) | exact (gset_kf (isM_ne hk (by decide))).trans ((gset_kf (isM_ne hk (by decide))).trans (gset_kf (isM_ne hk (by decide)))) | exact (gset_kf (isM_ne hk (by decide))).trans ((gset_kf (isM_ne hk (by decide))).trans ((gset_kf (isM_ne hk (by decide))).trans (gset_kf (isM_ne hk (by decide)))))) hI (fun h hh hJ => ?_)
    show Ou 160 0 [vR 8 0] [] h _ _
    obtain ⟨jsg1, jsg2, jsg3⟩ := hJ.2.1
    obtain ⟨jtx1, jtx2, jtx3, jtx4⟩ := hJ.2.2.1
    have jru0 : g 7 0 10 = h 8 0 8 := hJ.2.2.2.1.1.1
    have jru1 := hJ.2.2.2.1.2.1.1
    have jwd0 : g 1 0 1 = h 8 0 14 := hJ.2.2.2.2.1.1.1
    have jwd1 := hJ.2.2.2.2.1.2.1.1
    have jwd2 := hJ.2.2.2.2.1.2.2
    have jnw0 : g 0 0 0 = h 27 0 8 := hJ.2.2.2.2.2.1.1.1
    have jnw1 : g 0 0 1 = h 28 0 8 := hJ.2.2.2.2.2.1.1.2.1
    have jnw2 := hJ.2.2.2.2.2.1.2.1
    have jnw3 := hJ.2.2.2.2.2.1.2.2.1
    have jst0 := hJ.2.2.2.2.2.2.1.1
    have jst1 := hJ.2.2.2.2.2.2.1.2.1
    have jst2 := hJ.2.2.2.2.2.2.1.2.2.1
    have jla0 : g 7 0 13 = h 8 0 4 := hJ.2.2.2.2.2.2.2.2
    refine o_aload_n (n := 1) rfl rfl rfl ?_
    refine o_geti (n := 4) rfl rfl rfl rfl rfl ?_
    refine o_if_ne (n := 7) (t := 10) rfl rfl rfl (fun k4 => ?_) (fun k4 => ?_)
    · refine o_aload_n (n := 11) rfl rfl rfl ?_
      refine o_dup (n := 12) rfl rfl rfl ?_
      refine o_geti (n := 15) rfl rfl rfl rfl rfl ?_
      refine o_iconst (n := 16) rfl rfl ?_
      refine o_isub (n := 17) rfl rfl (by omega) ?_
      refine o_puti (n := 20) rfl rfl rfl rfl rfl ?_
      refine o_aload_n (n := 21) rfl rfl rfl ?_
      refine o_geti (n := 24) rfl rfl rfl rfl rfl ?_
      try first | rw [gset_at] | rw [gset_k rfl] | rw [gset_s (by decide)]
      try first | rw [gset_at] | rw [gset_k rfl] | rw [gset_s (by decide)]
      refine o_iret rfl rfl ?_
      first
        | (exfalso; omega; done)
        | (refine ⟨rfl, ?_, ?_, ?_⟩
           · subst hh; exact ⟨⟨hS, hR, h6, hP⟩, Isg_c (g := g) (h := g) rfl rfl hsg, Itx_c (g := g) (h := g) rfl rfl rfl rfl htx, Iru_c (g := g) (h := g) (r := r) (by omega) hR (fun _ _ _ => rfl) (fun _ _ _ => rfl) rfl rfl rfl rfl rfl rfl rfl rfl hru, Iwd_c (g := g) (h := g) (by omega) rfl rfl rfl rfl rfl rfl hwd, Inw_c (g := g) (h := g) rfl rfl rfl rfl (fun _ _ _ => rfl) hnw, ⟨by show g 7 0 11 - 1 = g 8 0 19 - 1; omega, by show 0 ≤ g 8 0 19 - 1; omega, by show g 8 0 19 - 1 ≤ 8; omega, fun k k0 k1 => hst.2.2.2 k k0 (by have k1 : k < g 8 0 19 - 1 := k1; omega)⟩, Ish_c (g := g) (h := g) rfl rfl rfl rfl rfl hsh, Ila_c (g := g) (h := g) rfl rfl hla⟩
           · subst hh; rfl
           · subst hh; rfl)
        | (refine ⟨congrArg (fun z => some (vI z)) ?_, ?_, ?_, ?_⟩
           · omega
           · subst hh; exact ⟨⟨hS, hR, h6, hP⟩, Isg_c (g := g) (h := g) rfl rfl hsg, Itx_c (g := g) (h := g) rfl rfl rfl rfl htx, Iru_c (g := g) (h := g) (r := r) (by omega) hR (fun _ _ _ => rfl) (fun _ _ _ => rfl) rfl rfl rfl rfl rfl rfl rfl rfl hru, Iwd_c (g := g) (h := g) (by omega) rfl rfl rfl rfl rfl rfl hwd, Inw_c (g := g) (h := g) rfl rfl rfl rfl (fun _ _ _ => rfl) hnw, ⟨by show g 7 0 11 - 1 = g 8 0 19 - 1; omega, by show 0 ≤ g 8 0 19 - 1; omega, by show g 8 0 19 - 1 ≤ 8; omega, fun k k0 k1 => hst.2.2.2 k k0 (by have k1 : k < g 8 0 19 - 1 := k1; omega)⟩, Ish_c (g := g) (h := g) rfl rfl rfl rfl rfl hsh, Ila_c (g := g) (h := g) rfl rfl hla⟩
           · subst hh; rfl
           · subst hh; rfl)
    · refine o_bipush (n := 9) rfl rfl ?_
      refine o_iret rfl rfl ?_
      first
        | (exfalso; omega; done)
        | (refine ⟨rfl, ?_, ?_, ?_⟩
           · subst hh; exact ⟨⟨hS, hR, h6, hP⟩, Isg_c (g := g) (h := g) rfl rfl hsg, Itx_c (g := g) (h := g) rfl rfl rfl rfl htx, Iru_c (g := g) (h := g) (r := r) (by omega) hR (fun _ _ _ => rfl) (fun _ _ _ => rfl) rfl rfl rfl rfl rfl rfl rfl rfl hru, Iwd_c (g := g) (h := g) (by omega) rfl rfl rfl rfl rfl rfl hwd, Inw_c (g := g) (h := g) rfl rfl rfl rfl (fun _ _ _ => rfl) hnw, Ist_c (g := g) (h := g) (r := r) hR rfl rfl (fun _ _ _ => rfl) (fun _ _ _ => rfl) rfl rfl rfl rfl (fun _ _ => rfl) (fun _ _ => rfl) (fun _ _ => rfl) rfl rfl rfl hst, Ish_c (g := g) (h := g) rfl rfl rfl rfl rfl hsh, Ila_c (g := g) (h := g) rfl rfl hla⟩
           · subst hh; rfl
           · subst hh; rfl)
        | (refine ⟨congrArg (fun z => some (vI z)) ?_, ?_, ?_, ?_⟩
           · omega
           · subst hh; exact ⟨⟨hS, hR, h6, hP⟩, Isg_c (g := g) (h := g) rfl rfl hsg, Itx_c (g := g) (h := g) rfl rfl rfl rfl htx, Iru_c (g := g) (h := g) (r := r) (by omega) hR (fun _ _ _ => rfl) (fun _ _ _ => rfl) rfl rfl rfl rfl rfl rfl rfl rfl hru, Iwd_c (g := g) (h := g) (by omega) rfl rfl rfl rfl rfl rfl hwd, Inw_c (g := g) (h := g) rfl rfl rfl rfl (fun _ _ _ => rfl) hnw, Ist_c (g := g) (h := g) (r := r) hR rfl rfl (fun _ _ _ => rfl) (fun _ _ _ => rfl) rfl rfl rfl rfl (fun _ _ => rfl) (fun _ _ => rfl) (fun _ _ => rfl) rfl rfl rfl hst, Ish_c (g := g) (h := g) rfl rfl rfl rfl rfl hsh, Ila_c (g := g) (h := g) rfl rfl hla⟩
           · subst hh; rfl
           · subst hh; rfl)
theorem p_letter (a : Int) : Pr 71 182 [vI a] := by
  intro c g r hc0 hc1 hI
  have hI' := hI
  obtain ⟨⟨hS, hR, h6, hP⟩, hsg, htx, hru, hwd, hnw, hst, hsh, hla⟩ := hI'
  show Ou 71 0 [vR 7 0, vI a] [] g r _
  obtain ⟨sg1, sg2, sg3⟩ := hI.2.1
  obtain ⟨tx1, tx2, tx3, tx4⟩ := hI.2.2.1
  have ru0 : g 7 0 10 = g 8 0 8 := hI.2.2.2.1.1.1
  have ru1 := hI.2.2.2.1.2.1.1
  have wd0 : g 1 0 1 = g 8 0 14 := hI.2.2.2.2.1.1.1
  have wd1 := hI.2.2.2.2.1.2.1.1
  have wd2 := hI.2.2.2.2.1.2.2
  have nw0 : g 0 0 0 = g 27 0 8 := hI.2.2.2.2.2.1.1.1
  have nw1 : g 0 0 1 = g 28 0 8 := hI.2.2.2.2.2.1.1.2.1
  have nw2 := hI.2.2.2.2.2.1.2.1
  have nw3 := hI.2.2.2.2.2.1.2.2.1
  have st0 := hI.2.2.2.2.2.2.1.1
  have st1 := hI.2.2.2.2.2.2.1.2.1
  have st2 := hI.2.2.2.2.2.2.1.2.2.1
  have la0 : g 7 0 13 = g 8 0 4 := hI.2.2.2.2.2.2.2.2
  have wl : ∀ k, 0 ≤ k → k < g 8 0 14 → g 10 0 k = g 25 0 k := hwd.1.2
  have al0 : am_al 10 0 = 24 := rfl
  refine o_iload_n (n := 1) rfl rfl rfl ?_
  refine o_iconst (n := 2) rfl rfl ?_
  refine o_icmp_lt (n := 5) (t := 11) rfl rfl rfl (fun q2 => ?_) (fun q2 => ?_)
  · refine o_bipush (n := 13) rfl rfl ?_
    refine o_iret rfl rfl ?_
    refine q8_of (g := g) (r := r) (fun k hk => by first | rfl | exact gset_kf (isM_ne hk (by decide)) | exact (gset_kf (isM_ne hk (by decide))).trans (gset_kf (isM_ne hk (by decide))) | exact (gset_kf (isM_ne hk (by decide))).trans ((gset_kf (isM_ne hk (by decide))).trans (gset_kf (isM_ne hk (by decide)))) | exact (gset_kf (isM_ne hk (by decide))).trans ((gset_kf (isM_ne hk (by decide))).trans ((gset_kf (isM_ne hk (by decide))).trans (gset_kf (isM_ne hk (by decide)))))) hI (fun h hh hJ => ?_)
    show Ou 182 0 [vR 8 0, vI a] [] h _ _
    obtain ⟨jsg1, jsg2, jsg3⟩ := hJ.2.1
    obtain ⟨jtx1, jtx2, jtx3, jtx4⟩ := hJ.2.2.1
    have jru0 : g 7 0 10 = h 8 0 8 := hJ.2.2.2.1.1.1
    have jru1 := hJ.2.2.2.1.2.1.1
    have jwd0 : g 1 0 1 = h 8 0 14 := hJ.2.2.2.2.1.1.1
    have jwd1 := hJ.2.2.2.2.1.2.1.1
    have jwd2 := hJ.2.2.2.2.1.2.2
    have jnw0 : g 0 0 0 = h 27 0 8 := hJ.2.2.2.2.2.1.1.1
    have jnw1 : g 0 0 1 = h 28 0 8 := hJ.2.2.2.2.2.1.1.2.1
    have jnw2 := hJ.2.2.2.2.2.1.2.1
    have jnw3 := hJ.2.2.2.2.2.1.2.2.1
    have jst0 := hJ.2.2.2.2.2.2.1.1
    have jst1 := hJ.2.2.2.2.2.2.1.2.1
    have jst2 := hJ.2.2.2.2.2.2.1.2.2.1
    have jla0 : g 7 0 13 = h 8 0 4 := hJ.2.2.2.2.2.2.2.2
    refine o_iload_n (n := 1) rfl rfl rfl ?_
    refine o_i2l (n := 2) rfl rfl ?_
    refine o_ldc2_w (n := 5) rfl rfl ?_
    refine o_ldc2_w (n := 8) rfl rfl ?_
    refine o_invsi (n := 11) rfl rfl rfl rfl rfl rfl (c8_in _ _ _) ?_
    refine o_ifb_eq (n := 14) (t := 22) rfl rfl rfl (fun k11 => ?_) (fun k11 => ?_)
    · refine o_bipush (n := 24) rfl rfl ?_
      refine o_iret rfl rfl ?_
      first
        | (exfalso; omega; done)
        | (refine ⟨?_, ?_, ?_, ?_⟩
           · have e25 : h 25 = g 25 := by rw [← hh]
             rw [e25]
             by_cases z1 : a = -1
             · rw [cif_t (show a < 0 by omega), cif_t z1]; exact congrArg (fun z => some (vI z)) (by omega)
             · rw [cif_f (show ¬ a < 0 by omega), cif_f z1]
               by_cases z2 : a < g 1 0 1
               · rw [cif_t z2, cif_t (by omega), wl a (by omega) (by omega)]
               · rw [cif_f z2, cif_f (by omega)]
           · subst hh; exact ⟨⟨hS, hR, h6, hP⟩, Isg_c (g := g) (h := g) rfl rfl hsg, Itx_c (g := g) (h := g) rfl rfl rfl rfl htx, Iru_c (g := g) (h := g) (r := r) (by omega) hR (fun _ _ _ => rfl) (fun _ _ _ => rfl) rfl rfl rfl rfl rfl rfl rfl rfl hru, Iwd_c (g := g) (h := g) (by omega) rfl rfl rfl rfl rfl rfl hwd, Inw_c (g := g) (h := g) rfl rfl rfl rfl (fun _ _ _ => rfl) hnw, Ist_c (g := g) (h := g) (r := r) hR rfl rfl (fun _ _ _ => rfl) (fun _ _ _ => rfl) rfl rfl rfl rfl (fun _ _ => rfl) (fun _ _ => rfl) (fun _ _ => rfl) rfl rfl rfl hst, Ish_c (g := g) (h := g) rfl rfl rfl rfl rfl hsh, Ila_c (g := g) (h := g) rfl rfl hla⟩
           · subst hh; rfl
           · subst hh; rfl)
        | (refine ⟨by first | rfl | exact congrArg (fun z => some (vI z)) (by omega), ?_, ?_, ?_⟩
           · subst hh; exact ⟨⟨hS, hR, h6, hP⟩, Isg_c (g := g) (h := g) rfl rfl hsg, Itx_c (g := g) (h := g) rfl rfl rfl rfl htx, Iru_c (g := g) (h := g) (r := r) (by omega) hR (fun _ _ _ => rfl) (fun _ _ _ => rfl) rfl rfl rfl rfl rfl rfl rfl rfl hru, Iwd_c (g := g) (h := g) (by omega) rfl rfl rfl rfl rfl rfl hwd, Inw_c (g := g) (h := g) rfl rfl rfl rfl (fun _ _ _ => rfl) hnw, Ist_c (g := g) (h := g) (r := r) hR rfl rfl (fun _ _ _ => rfl) (fun _ _ _ => rfl) rfl rfl rfl rfl (fun _ _ => rfl) (fun _ _ => rfl) (fun _ _ => rfl) rfl rfl rfl hst, Ish_c (g := g) (h := g) rfl rfl rfl rfl rfl hsh, Ila_c (g := g) (h := g) rfl rfl hla⟩
           · subst hh; rfl
           · subst hh; rfl)
    · refine o_aload_n (n := 15) rfl rfl rfl ?_
      refine o_iload_n (n := 16) rfl rfl rfl ?_
      refine o_invi (n := 19) rfl rfl rfl rfl rfl rfl rfl rfl rfl rfl (c8_letterBy hS _ (by omega) (by omega)) ?_
      refine o_goto (t := 24) rfl rfl ?_
      refine o_iret rfl rfl ?_
      first
        | (exfalso; omega; done)
        | (refine ⟨?_, ?_, ?_, ?_⟩
           · have e25 : h 25 = g 25 := by rw [← hh]
             rw [e25]
             by_cases z1 : a = -1
             · rw [cif_t (show a < 0 by omega), cif_t z1]; exact congrArg (fun z => some (vI z)) (by omega)
             · rw [cif_f (show ¬ a < 0 by omega), cif_f z1]
               by_cases z2 : a < g 1 0 1
               · rw [cif_t z2, cif_t (by omega), wl a (by omega) (by omega)]
               · rw [cif_f z2, cif_f (by omega)]
           · subst hh; exact ⟨⟨hS, hR, h6, hP⟩, Isg_c (g := g) (h := g) rfl rfl hsg, Itx_c (g := g) (h := g) rfl rfl rfl rfl htx, Iru_c (g := g) (h := g) (r := r) (by omega) hR (fun _ _ _ => rfl) (fun _ _ _ => rfl) rfl rfl rfl rfl rfl rfl rfl rfl hru, Iwd_c (g := g) (h := g) (by omega) rfl rfl rfl rfl rfl rfl hwd, Inw_c (g := g) (h := g) rfl rfl rfl rfl (fun _ _ _ => rfl) hnw, Ist_c (g := g) (h := g) (r := r) hR rfl rfl (fun _ _ _ => rfl) (fun _ _ _ => rfl) rfl rfl rfl rfl (fun _ _ => rfl) (fun _ _ => rfl) (fun _ _ => rfl) rfl rfl rfl hst, Ish_c (g := g) (h := g) rfl rfl rfl rfl rfl hsh, Ila_c (g := g) (h := g) rfl rfl hla⟩
           · subst hh; rfl
           · subst hh; rfl)
        | (refine ⟨by first | rfl | exact congrArg (fun z => some (vI z)) (by omega), ?_, ?_, ?_⟩
           · subst hh; exact ⟨⟨hS, hR, h6, hP⟩, Isg_c (g := g) (h := g) rfl rfl hsg, Itx_c (g := g) (h := g) rfl rfl rfl rfl htx, Iru_c (g := g) (h := g) (r := r) (by omega) hR (fun _ _ _ => rfl) (fun _ _ _ => rfl) rfl rfl rfl rfl rfl rfl rfl rfl hru, Iwd_c (g := g) (h := g) (by omega) rfl rfl rfl rfl rfl rfl hwd, Inw_c (g := g) (h := g) rfl rfl rfl rfl (fun _ _ _ => rfl) hnw, Ist_c (g := g) (h := g) (r := r) hR rfl rfl (fun _ _ _ => rfl) (fun _ _ _ => rfl) rfl rfl rfl rfl (fun _ _ => rfl) (fun _ _ => rfl) (fun _ _ => rfl) rfl rfl rfl hst, Ish_c (g := g) (h := g) rfl rfl rfl rfl rfl hsh, Ila_c (g := g) (h := g) rfl rfl hla⟩
           · subst hh; rfl
           · subst hh; rfl)
  · refine o_iload_n (n := 6) rfl rfl rfl ?_
    refine o_bipush (n := 8) rfl rfl ?_
    refine o_icmp_lt (n := 11) (t := 14) rfl rfl rfl (fun q8 => ?_) (fun q8 => ?_)
    · refine o_aload_n (n := 15) rfl rfl rfl ?_
      refine of_7_1 (n := 18) hS rfl rfl ?_
      refine o_iload_n (n := 19) rfl rfl rfl ?_
      refine o_invi (n := 22) rfl rfl rfl rfl rfl rfl rfl rfl rfl (ok_1 (by omega) (by omega)) (c1_lengthOrSign hS _ _ (by omega) (by omega) (by omega)) ?_
      refine o_iret rfl rfl ?_
      refine q8_of (g := g) (r := r) (fun k hk => by first | rfl | exact gset_kf (isM_ne hk (by decide)) | exact (gset_kf (isM_ne hk (by decide))).trans (gset_kf (isM_ne hk (by decide))) | exact (gset_kf (isM_ne hk (by decide))).trans ((gset_kf (isM_ne hk (by decide))).trans (gset_kf (isM_ne hk (by decide)))) | exact (gset_kf (isM_ne hk (by decide))).trans ((gset_kf (isM_ne hk (by decide))).trans ((gset_kf (isM_ne hk (by decide))).trans (gset_kf (isM_ne hk (by decide)))))) hI (fun h hh hJ => ?_)
      show Ou 182 0 [vR 8 0, vI a] [] h _ _
      obtain ⟨jsg1, jsg2, jsg3⟩ := hJ.2.1
      obtain ⟨jtx1, jtx2, jtx3, jtx4⟩ := hJ.2.2.1
      have jru0 : g 7 0 10 = h 8 0 8 := hJ.2.2.2.1.1.1
      have jru1 := hJ.2.2.2.1.2.1.1
      have jwd0 : g 1 0 1 = h 8 0 14 := hJ.2.2.2.2.1.1.1
      have jwd1 := hJ.2.2.2.2.1.2.1.1
      have jwd2 := hJ.2.2.2.2.1.2.2
      have jnw0 : g 0 0 0 = h 27 0 8 := hJ.2.2.2.2.2.1.1.1
      have jnw1 : g 0 0 1 = h 28 0 8 := hJ.2.2.2.2.2.1.1.2.1
      have jnw2 := hJ.2.2.2.2.2.1.2.1
      have jnw3 := hJ.2.2.2.2.2.1.2.2.1
      have jst0 := hJ.2.2.2.2.2.2.1.1
      have jst1 := hJ.2.2.2.2.2.2.1.2.1
      have jst2 := hJ.2.2.2.2.2.2.1.2.2.1
      have jla0 : g 7 0 13 = h 8 0 4 := hJ.2.2.2.2.2.2.2.2
      refine o_iload_n (n := 1) rfl rfl rfl ?_
      refine o_i2l (n := 2) rfl rfl ?_
      refine o_ldc2_w (n := 5) rfl rfl ?_
      refine o_ldc2_w (n := 8) rfl rfl ?_
      refine o_invsi (n := 11) rfl rfl rfl rfl rfl rfl (c8_in _ _ _) ?_
      refine o_ifb_eq (n := 14) (t := 22) rfl rfl rfl (fun k11 => ?_) (fun k11 => ?_)
      · refine o_bipush (n := 24) rfl rfl ?_
        refine o_iret rfl rfl ?_
        first
          | (exfalso; omega; done)
          | (refine ⟨?_, ?_, ?_, ?_⟩
             · have e25 : h 25 = g 25 := by rw [← hh]
               rw [e25]
               by_cases z1 : a = -1
               · rw [cif_t (show a < 0 by omega), cif_t z1]; exact congrArg (fun z => some (vI z)) (by omega)
               · rw [cif_f (show ¬ a < 0 by omega), cif_f z1]
                 by_cases z2 : a < g 1 0 1
                 · rw [cif_t z2, cif_t (by omega), wl a (by omega) (by omega)]
                 · rw [cif_f z2, cif_f (by omega)]
             · subst hh; exact ⟨⟨hS, hR, h6, hP⟩, Isg_c (g := g) (h := g) rfl rfl hsg, Itx_c (g := g) (h := g) rfl rfl rfl rfl htx, Iru_c (g := g) (h := g) (r := r) (by omega) hR (fun _ _ _ => rfl) (fun _ _ _ => rfl) rfl rfl rfl rfl rfl rfl rfl rfl hru, Iwd_c (g := g) (h := g) (by omega) rfl rfl rfl rfl rfl rfl hwd, Inw_c (g := g) (h := g) rfl rfl rfl rfl (fun _ _ _ => rfl) hnw, Ist_c (g := g) (h := g) (r := r) hR rfl rfl (fun _ _ _ => rfl) (fun _ _ _ => rfl) rfl rfl rfl rfl (fun _ _ => rfl) (fun _ _ => rfl) (fun _ _ => rfl) rfl rfl rfl hst, Ish_c (g := g) (h := g) rfl rfl rfl rfl rfl hsh, Ila_c (g := g) (h := g) rfl rfl hla⟩
             · subst hh; rfl
             · subst hh; rfl)
          | (refine ⟨by first | rfl | exact congrArg (fun z => some (vI z)) (by omega), ?_, ?_, ?_⟩
             · subst hh; exact ⟨⟨hS, hR, h6, hP⟩, Isg_c (g := g) (h := g) rfl rfl hsg, Itx_c (g := g) (h := g) rfl rfl rfl rfl htx, Iru_c (g := g) (h := g) (r := r) (by omega) hR (fun _ _ _ => rfl) (fun _ _ _ => rfl) rfl rfl rfl rfl rfl rfl rfl rfl hru, Iwd_c (g := g) (h := g) (by omega) rfl rfl rfl rfl rfl rfl hwd, Inw_c (g := g) (h := g) rfl rfl rfl rfl (fun _ _ _ => rfl) hnw, Ist_c (g := g) (h := g) (r := r) hR rfl rfl (fun _ _ _ => rfl) (fun _ _ _ => rfl) rfl rfl rfl rfl (fun _ _ => rfl) (fun _ _ => rfl) (fun _ _ => rfl) rfl rfl rfl hst, Ish_c (g := g) (h := g) rfl rfl rfl rfl rfl hsh, Ila_c (g := g) (h := g) rfl rfl hla⟩
             · subst hh; rfl
             · subst hh; rfl)
      · refine o_aload_n (n := 15) rfl rfl rfl ?_
        refine o_iload_n (n := 16) rfl rfl rfl ?_
        refine o_invi (n := 19) rfl rfl rfl rfl rfl rfl rfl rfl rfl rfl (c8_letterBy hS _ (by omega) (by omega)) ?_
        refine o_goto (t := 24) rfl rfl ?_
        refine o_iret rfl rfl ?_
        first
          | (exfalso; omega; done)
          | (refine ⟨?_, ?_, ?_, ?_⟩
             · have e25 : h 25 = g 25 := by rw [← hh]
               rw [e25]
               by_cases z1 : a = -1
               · rw [cif_t (show a < 0 by omega), cif_t z1]; exact congrArg (fun z => some (vI z)) (by omega)
               · rw [cif_f (show ¬ a < 0 by omega), cif_f z1]
                 by_cases z2 : a < g 1 0 1
                 · rw [cif_t z2, cif_t (by omega), wl a (by omega) (by omega)]
                 · rw [cif_f z2, cif_f (by omega)]
             · subst hh; exact ⟨⟨hS, hR, h6, hP⟩, Isg_c (g := g) (h := g) rfl rfl hsg, Itx_c (g := g) (h := g) rfl rfl rfl rfl htx, Iru_c (g := g) (h := g) (r := r) (by omega) hR (fun _ _ _ => rfl) (fun _ _ _ => rfl) rfl rfl rfl rfl rfl rfl rfl rfl hru, Iwd_c (g := g) (h := g) (by omega) rfl rfl rfl rfl rfl rfl hwd, Inw_c (g := g) (h := g) rfl rfl rfl rfl (fun _ _ _ => rfl) hnw, Ist_c (g := g) (h := g) (r := r) hR rfl rfl (fun _ _ _ => rfl) (fun _ _ _ => rfl) rfl rfl rfl rfl (fun _ _ => rfl) (fun _ _ => rfl) (fun _ _ => rfl) rfl rfl rfl hst, Ish_c (g := g) (h := g) rfl rfl rfl rfl rfl hsh, Ila_c (g := g) (h := g) rfl rfl hla⟩
             · subst hh; rfl
             · subst hh; rfl)
          | (refine ⟨by first | rfl | exact congrArg (fun z => some (vI z)) (by omega), ?_, ?_, ?_⟩
             · subst hh; exact ⟨⟨hS, hR, h6, hP⟩, Isg_c (g := g) (h := g) rfl rfl hsg, Itx_c (g := g) (h := g) rfl rfl rfl rfl htx, Iru_c (g := g) (h := g) (r := r) (by omega) hR (fun _ _ _ => rfl) (fun _ _ _ => rfl) rfl rfl rfl rfl rfl rfl rfl rfl hru, Iwd_c (g := g) (h := g) (by omega) rfl rfl rfl rfl rfl rfl hwd, Inw_c (g := g) (h := g) rfl rfl rfl rfl (fun _ _ _ => rfl) hnw, Ist_c (g := g) (h := g) (r := r) hR rfl rfl (fun _ _ _ => rfl) (fun _ _ _ => rfl) rfl rfl rfl rfl (fun _ _ => rfl) (fun _ _ => rfl) (fun _ _ => rfl) rfl rfl rfl hst, Ish_c (g := g) (h := g) rfl rfl rfl rfl rfl hsh, Ila_c (g := g) (h := g) rfl rfl hla⟩
             · subst hh; rfl
             · subst hh; rfl)
    · refine o_bipush (n := 13) rfl rfl ?_
      refine o_iret rfl rfl ?_
      refine q8_of (g := g) (r := r) (fun k hk => by first | rfl | exact gset_kf (isM_ne hk (by decide)) | exact (gset_kf (isM_ne hk (by decide))).trans (gset_kf (isM_ne hk (by decide))) | exact (gset_kf (isM_ne hk (by decide))).trans ((gset_kf (isM_ne hk (by decide))).trans (gset_kf (isM_ne hk (by decide)))) | exact (gset_kf (isM_ne hk (by decide))).trans ((gset_kf (isM_ne hk (by decide))).trans ((gset_kf (isM_ne hk (by decide))).trans (gset_kf (isM_ne hk (by decide)))))) hI (fun h hh hJ => ?_)
      show Ou 182 0 [vR 8 0, vI a] [] h _ _
      obtain ⟨jsg1, jsg2, jsg3⟩ := hJ.2.1
      obtain ⟨jtx1, jtx2, jtx3, jtx4⟩ := hJ.2.2.1
      have jru0 : g 7 0 10 = h 8 0 8 := hJ.2.2.2.1.1.1
      have jru1 := hJ.2.2.2.1.2.1.1
      have jwd0 : g 1 0 1 = h 8 0 14 := hJ.2.2.2.2.1.1.1
      have jwd1 := hJ.2.2.2.2.1.2.1.1
      have jwd2 := hJ.2.2.2.2.1.2.2
      have jnw0 : g 0 0 0 = h 27 0 8 := hJ.2.2.2.2.2.1.1.1
      have jnw1 : g 0 0 1 = h 28 0 8 := hJ.2.2.2.2.2.1.1.2.1
      have jnw2 := hJ.2.2.2.2.2.1.2.1
      have jnw3 := hJ.2.2.2.2.2.1.2.2.1
      have jst0 := hJ.2.2.2.2.2.2.1.1
      have jst1 := hJ.2.2.2.2.2.2.1.2.1
      have jst2 := hJ.2.2.2.2.2.2.1.2.2.1
      have jla0 : g 7 0 13 = h 8 0 4 := hJ.2.2.2.2.2.2.2.2
      refine o_iload_n (n := 1) rfl rfl rfl ?_
      refine o_i2l (n := 2) rfl rfl ?_
      refine o_ldc2_w (n := 5) rfl rfl ?_
      refine o_ldc2_w (n := 8) rfl rfl ?_
      refine o_invsi (n := 11) rfl rfl rfl rfl rfl rfl (c8_in _ _ _) ?_
      refine o_ifb_eq (n := 14) (t := 22) rfl rfl rfl (fun k11 => ?_) (fun k11 => ?_)
      · refine o_bipush (n := 24) rfl rfl ?_
        refine o_iret rfl rfl ?_
        first
          | (exfalso; omega; done)
          | (refine ⟨?_, ?_, ?_, ?_⟩
             · have e25 : h 25 = g 25 := by rw [← hh]
               rw [e25]
               by_cases z1 : a = -1
               · rw [cif_t (show a < 0 by omega), cif_t z1]; exact congrArg (fun z => some (vI z)) (by omega)
               · rw [cif_f (show ¬ a < 0 by omega), cif_f z1]
                 by_cases z2 : a < g 1 0 1
                 · rw [cif_t z2, cif_t (by omega), wl a (by omega) (by omega)]
                 · rw [cif_f z2, cif_f (by omega)]
             · subst hh; exact ⟨⟨hS, hR, h6, hP⟩, Isg_c (g := g) (h := g) rfl rfl hsg, Itx_c (g := g) (h := g) rfl rfl rfl rfl htx, Iru_c (g := g) (h := g) (r := r) (by omega) hR (fun _ _ _ => rfl) (fun _ _ _ => rfl) rfl rfl rfl rfl rfl rfl rfl rfl hru, Iwd_c (g := g) (h := g) (by omega) rfl rfl rfl rfl rfl rfl hwd, Inw_c (g := g) (h := g) rfl rfl rfl rfl (fun _ _ _ => rfl) hnw, Ist_c (g := g) (h := g) (r := r) hR rfl rfl (fun _ _ _ => rfl) (fun _ _ _ => rfl) rfl rfl rfl rfl (fun _ _ => rfl) (fun _ _ => rfl) (fun _ _ => rfl) rfl rfl rfl hst, Ish_c (g := g) (h := g) rfl rfl rfl rfl rfl hsh, Ila_c (g := g) (h := g) rfl rfl hla⟩
             · subst hh; rfl
             · subst hh; rfl)
          | (refine ⟨by first | rfl | exact congrArg (fun z => some (vI z)) (by omega), ?_, ?_, ?_⟩
             · subst hh; exact ⟨⟨hS, hR, h6, hP⟩, Isg_c (g := g) (h := g) rfl rfl hsg, Itx_c (g := g) (h := g) rfl rfl rfl rfl htx, Iru_c (g := g) (h := g) (r := r) (by omega) hR (fun _ _ _ => rfl) (fun _ _ _ => rfl) rfl rfl rfl rfl rfl rfl rfl rfl hru, Iwd_c (g := g) (h := g) (by omega) rfl rfl rfl rfl rfl rfl hwd, Inw_c (g := g) (h := g) rfl rfl rfl rfl (fun _ _ _ => rfl) hnw, Ist_c (g := g) (h := g) (r := r) hR rfl rfl (fun _ _ _ => rfl) (fun _ _ _ => rfl) rfl rfl rfl rfl (fun _ _ => rfl) (fun _ _ => rfl) (fun _ _ => rfl) rfl rfl rfl hst, Ish_c (g := g) (h := g) rfl rfl rfl rfl rfl hsh, Ila_c (g := g) (h := g) rfl rfl hla⟩
             · subst hh; rfl
             · subst hh; rfl)
      · refine o_aload_n (n := 15) rfl rfl rfl ?_
        refine o_iload_n (n := 16) rfl rfl rfl ?_
        refine o_invi (n := 19) rfl rfl rfl rfl rfl rfl rfl rfl rfl rfl (c8_letterBy hS _ (by omega) (by omega)) ?_
        refine o_goto (t := 24) rfl rfl ?_
        refine o_iret rfl rfl ?_
        first
          | (exfalso; omega; done)
          | (refine ⟨?_, ?_, ?_, ?_⟩
             · have e25 : h 25 = g 25 := by rw [← hh]
               rw [e25]
               by_cases z1 : a = -1
               · rw [cif_t (show a < 0 by omega), cif_t z1]; exact congrArg (fun z => some (vI z)) (by omega)
               · rw [cif_f (show ¬ a < 0 by omega), cif_f z1]
                 by_cases z2 : a < g 1 0 1
                 · rw [cif_t z2, cif_t (by omega), wl a (by omega) (by omega)]
                 · rw [cif_f z2, cif_f (by omega)]
             · subst hh; exact ⟨⟨hS, hR, h6, hP⟩, Isg_c (g := g) (h := g) rfl rfl hsg, Itx_c (g := g) (h := g) rfl rfl rfl rfl htx, Iru_c (g := g) (h := g) (r := r) (by omega) hR (fun _ _ _ => rfl) (fun _ _ _ => rfl) rfl rfl rfl rfl rfl rfl rfl rfl hru, Iwd_c (g := g) (h := g) (by omega) rfl rfl rfl rfl rfl rfl hwd, Inw_c (g := g) (h := g) rfl rfl rfl rfl (fun _ _ _ => rfl) hnw, Ist_c (g := g) (h := g) (r := r) hR rfl rfl (fun _ _ _ => rfl) (fun _ _ _ => rfl) rfl rfl rfl rfl (fun _ _ => rfl) (fun _ _ => rfl) (fun _ _ => rfl) rfl rfl rfl hst, Ish_c (g := g) (h := g) rfl rfl rfl rfl rfl hsh, Ila_c (g := g) (h := g) rfl rfl hla⟩
             · subst hh; rfl
             · subst hh; rfl)
          | (refine ⟨by first | rfl | exact congrArg (fun z => some (vI z)) (by omega), ?_, ?_, ?_⟩
             · subst hh; exact ⟨⟨hS, hR, h6, hP⟩, Isg_c (g := g) (h := g) rfl rfl hsg, Itx_c (g := g) (h := g) rfl rfl rfl rfl htx, Iru_c (g := g) (h := g) (r := r) (by omega) hR (fun _ _ _ => rfl) (fun _ _ _ => rfl) rfl rfl rfl rfl rfl rfl rfl rfl hru, Iwd_c (g := g) (h := g) (by omega) rfl rfl rfl rfl rfl rfl hwd, Inw_c (g := g) (h := g) rfl rfl rfl rfl (fun _ _ _ => rfl) hnw, Ist_c (g := g) (h := g) (r := r) hR rfl rfl (fun _ _ _ => rfl) (fun _ _ _ => rfl) rfl rfl rfl rfl (fun _ _ => rfl) (fun _ _ => rfl) (fun _ _ => rfl) rfl rfl rfl hst, Ish_c (g := g) (h := g) rfl rfl rfl rfl rfl hsh, Ila_c (g := g) (h := g) rfl rfl hla⟩
             · subst hh; rfl
             · subst hh; rfl)
