/-! info, the second half. Written by wip/gen/gen40.py -/
theorem C7_info (i : Int) (w : Int) : C7 52 [vI i, vI w] (fun g => vI (inS g i w)) := by
  intro c g r hc0 hc1 hI
  have hI' := hI
  obtain ⟨⟨hS, hR, h6, hP⟩, hsg, htx, hru, hwd, hnw, hst, hsh, hla⟩ := hI'
  show Ou 52 0 [vR 7 0, vI i, vI w] [] g r (fun xx g1 r1 => xx = some (vI (inS g i w)) ∧ FJ g r g1 r1)
  obtain ⟨sg1, sg2, sg3⟩ := hI.2.1
  obtain ⟨tx1, tx2, tx3, tx4⟩ := hI.2.2.1
  have ru0 : g 7 0 10 = g 8 0 8 := hI.2.2.2.1.1.1
  have ru1 := hI.2.2.2.1.2.1.1
  have wd0 : g 1 0 1 = g 8 0 14 := hI.2.2.2.2.1.1.1
  have wd1 := hI.2.2.2.2.1.2.1.1
  have wd2 := hI.2.2.2.2.1.2.2
  have nw0 : g 0 0 0 = g 27 0 8 := hI.2.2.2.2.2.1.1.1
  have nw1 : g 0 0 1 = g 28 0 8 := hI.2.2.2.2.2.1.1.2.1
  have nw2 := hI.2.2.2.2.2.1.2.1
  have nw3 := hI.2.2.2.2.2.1.2.2.1
  have st0 := hI.2.2.2.2.2.2.1.1
  have st1 := hI.2.2.2.2.2.2.1.2.1
  have st2 := hI.2.2.2.2.2.2.1.2.2.1
  have la0 : g 7 0 13 = g 8 0 4 := hI.2.2.2.2.2.2.2.2
  refine o_aload_n (n := 1) rfl rfl rfl ?_
  refine o_iload_n (n := 2) rfl rfl rfl ?_
  refine o_invi (n := 5) rfl rfl rfl rfl rfl rfl rfl rfl rfl rfl (c7_isRule _) ?_
  refine o_ifb_ne (n := 8) (t := 11) rfl rfl rfl (fun q5 => ?_) (fun q5 => ?_)
  · refine o_iload_n (n := 12) rfl rfl rfl ?_
    refine o_tabC (td := 151) rfl rfl (fun q12 => ?_) (fun j hj q12 => ?_)
    · refine o_bipush (n := 153) rfl rfl ?_
      refine o_iret rfl rfl ?_
      first
        | (exfalso; omega; done)
        | (have hw : w = 0 := by omega
           refine ⟨congrArg (fun z => some (vI z)) ?_, FJ_refl h6⟩
           rw [show inS g i w = inu g i w from cif_t (by omega)]
           unfold inu
           rw [cif_t hw])
        | (have hw : w = 1 := by omega
           refine ⟨congrArg (fun z => some (vI z)) ?_, FJ_refl h6⟩
           rw [show inS g i w = inu g i w from cif_t (by omega)]
           unfold inu
           rw [cif_f (by omega), cif_t hw]
           rw [st0]
           exact fi_congr (fun j j0 j1 => by unfold rm7 rm8; rw [(hst.2.2.2 j j0 (by omega)).1]))
        | (have hw : w = 2 := by omega
           refine ⟨congrArg (fun z => some (vI z)) ?_, FJ_refl h6⟩
           rw [show inS g i w = inu g i w from cif_t (by omega)]
           unfold inu
           rw [cif_f (by omega), cif_f (by omega), cif_t hw]
           exact (hru.2.2 i (by omega) (by omega)).1)
        | (have hw : w = 3 := by omega
           refine ⟨congrArg (fun z => some (vI z)) ?_, f1⟩
           rw [show inS g i w = inu g i w from cif_t (by omega)]
           unfold inu
           rw [cif_f (by omega), cif_f (by omega), cif_f (by omega), cif_t hw]
           first | rw [bi_t (by assumption)] | rw [bi_f (by omega)])
        | (have hw : w = 4 := by omega
           refine ⟨congrArg (fun z => some (vI z)) ?_, f1⟩
           rw [show inS g i w = inu g i w from cif_t (by omega)]
           unfold inu
           rw [cif_f (by omega), cif_f (by omega), cif_f (by omega), cif_f (by omega), cif_t hw]
           first | rw [bi_t (by assumption)] | rw [bi_f (by assumption)])
        | (have hw : w = 5 := by omega
           refine ⟨congrArg (fun z => some (vI z)) ?_, FJ_refl h6⟩
           rw [show inS g i w = inu g i w from cif_t (by omega)]
           unfold inu
           rw [cif_f (by omega), cif_f (by omega), cif_f (by omega), cif_f (by omega), cif_f (by omega)]
           rw [wd0]
           exact ctn_congr (fun j j0 j1 => at_eq hru hwd (by omega) (by omega) j0))
        | (refine ⟨congrArg (fun z => some (vI z)) ?_, FJ_refl h6⟩
           unfold inS
           rw [cif_f (by omega)])
    · rcases (show j = 0 ∨ j = 1 ∨ j = 2 ∨ j = 3 ∨ j = 4 ∨ j = 5 by omega) with ej | ej | ej | ej | ej | ej <;> subst ej
      · change Ou _ 52 _ _ _ _ _
        refine o_aload_n (n := 53) rfl rfl rfl ?_
        refine of_7_2 (n := 56) hS rfl rfl ?_
        refine o_iload_n (n := 57) rfl rfl rfl ?_
        refine o_ra14 (n := 58) hR rfl rfl (by omega) (by omega) (fun hA57 hB57 => ?_)
        refine o_geti (n := 61) rfl rfl rfl (ok_2 (by omega) (by omega)) rfl ?_
        have hs2 : g 2 (r 14 0 i) 2 = bi (bt (g 8 0 12) i) := by
          have h3 := (hru.2.2 i (by omega) (by omega)).2.2
          by_cases z : bt (g 8 0 12) i
          · rw [bi_t z]; have := h3.2.mpr z; omega
          · rw [bi_f z]
            by_cases y : g 2 (r 14 0 i) 2 = 0
            · exact y
            · exact absurd (h3.2.mp y) z
        rw [hs2]
        refine o_invsi (n := 64) rfl rfl rfl rfl rfl rfl (c7_bit _) ?_
        refine o_iret rfl rfl ?_
        first
          | (exfalso; omega; done)
          | (have hw : w = 0 := by omega
             refine ⟨congrArg (fun z => some (vI z)) ?_, FJ_refl h6⟩
             rw [show inS g i w = inu g i w from cif_t (by omega)]
             unfold inu
             rw [cif_t hw])
          | (have hw : w = 1 := by omega
             refine ⟨congrArg (fun z => some (vI z)) ?_, FJ_refl h6⟩
             rw [show inS g i w = inu g i w from cif_t (by omega)]
             unfold inu
             rw [cif_f (by omega), cif_t hw]
             rw [st0]
             exact fi_congr (fun j j0 j1 => by unfold rm7 rm8; rw [(hst.2.2.2 j j0 (by omega)).1]))
          | (have hw : w = 2 := by omega
             refine ⟨congrArg (fun z => some (vI z)) ?_, FJ_refl h6⟩
             rw [show inS g i w = inu g i w from cif_t (by omega)]
             unfold inu
             rw [cif_f (by omega), cif_f (by omega), cif_t hw]
             exact (hru.2.2 i (by omega) (by omega)).1)
          | (have hw : w = 3 := by omega
             refine ⟨congrArg (fun z => some (vI z)) ?_, f1⟩
             rw [show inS g i w = inu g i w from cif_t (by omega)]
             unfold inu
             rw [cif_f (by omega), cif_f (by omega), cif_f (by omega), cif_t hw]
             first | rw [bi_t (by assumption)] | rw [bi_f (by omega)])
          | (have hw : w = 4 := by omega
             refine ⟨congrArg (fun z => some (vI z)) ?_, f1⟩
             rw [show inS g i w = inu g i w from cif_t (by omega)]
             unfold inu
             rw [cif_f (by omega), cif_f (by omega), cif_f (by omega), cif_f (by omega), cif_t hw]
             first | rw [bi_t (by assumption)] | rw [bi_f (by assumption)])
          | (have hw : w = 5 := by omega
             refine ⟨congrArg (fun z => some (vI z)) ?_, FJ_refl h6⟩
             rw [show inS g i w = inu g i w from cif_t (by omega)]
             unfold inu
             rw [cif_f (by omega), cif_f (by omega), cif_f (by omega), cif_f (by omega), cif_f (by omega)]
             rw [wd0]
             exact ctn_congr (fun j j0 j1 => at_eq hru hwd (by omega) (by omega) j0))
          | (refine ⟨congrArg (fun z => some (vI z)) ?_, FJ_refl h6⟩
             unfold inS
             rw [cif_f (by omega)])
      · change Ou _ 65 _ _ _ _ _
        refine o_aload_n (n := 66) rfl rfl rfl ?_
        refine o_iload_n (n := 67) rfl rfl rfl ?_
        refine o_invi (n := 70) rfl rfl rfl rfl rfl rfl rfl rfl rfl rfl (c7_removedBy hS hR (by omega) (by omega) i) ?_
        refine o_iret rfl rfl ?_
        first
          | (exfalso; omega; done)
          | (have hw : w = 0 := by omega
             refine ⟨congrArg (fun z => some (vI z)) ?_, FJ_refl h6⟩
             rw [show inS g i w = inu g i w from cif_t (by omega)]
             unfold inu
             rw [cif_t hw])
          | (have hw : w = 1 := by omega
             refine ⟨congrArg (fun z => some (vI z)) ?_, FJ_refl h6⟩
             rw [show inS g i w = inu g i w from cif_t (by omega)]
             unfold inu
             rw [cif_f (by omega), cif_t hw]
             rw [st0]
             exact fi_congr (fun j j0 j1 => by unfold rm7 rm8; rw [(hst.2.2.2 j j0 (by omega)).1]))
          | (have hw : w = 2 := by omega
             refine ⟨congrArg (fun z => some (vI z)) ?_, FJ_refl h6⟩
             rw [show inS g i w = inu g i w from cif_t (by omega)]
             unfold inu
             rw [cif_f (by omega), cif_f (by omega), cif_t hw]
             exact (hru.2.2 i (by omega) (by omega)).1)
          | (have hw : w = 3 := by omega
             refine ⟨congrArg (fun z => some (vI z)) ?_, f1⟩
             rw [show inS g i w = inu g i w from cif_t (by omega)]
             unfold inu
             rw [cif_f (by omega), cif_f (by omega), cif_f (by omega), cif_t hw]
             first | rw [bi_t (by assumption)] | rw [bi_f (by omega)])
          | (have hw : w = 4 := by omega
             refine ⟨congrArg (fun z => some (vI z)) ?_, f1⟩
             rw [show inS g i w = inu g i w from cif_t (by omega)]
             unfold inu
             rw [cif_f (by omega), cif_f (by omega), cif_f (by omega), cif_f (by omega), cif_t hw]
             first | rw [bi_t (by assumption)] | rw [bi_f (by assumption)])
          | (have hw : w = 5 := by omega
             refine ⟨congrArg (fun z => some (vI z)) ?_, FJ_refl h6⟩
             rw [show inS g i w = inu g i w from cif_t (by omega)]
             unfold inu
             rw [cif_f (by omega), cif_f (by omega), cif_f (by omega), cif_f (by omega), cif_f (by omega)]
             rw [wd0]
             exact ctn_congr (fun j j0 j1 => at_eq hru hwd (by omega) (by omega) j0))
          | (refine ⟨congrArg (fun z => some (vI z)) ?_, FJ_refl h6⟩
             unfold inS
             rw [cif_f (by omega)])
      · change Ou _ 71 _ _ _ _ _
        refine o_aload_n (n := 72) rfl rfl rfl ?_
        refine of_7_2 (n := 75) hS rfl rfl ?_
        refine o_iload_n (n := 76) rfl rfl rfl ?_
        refine o_ra14 (n := 77) hR rfl rfl (by omega) (by omega) (fun hA76 hB76 => ?_)
        refine o_geti (n := 80) rfl rfl rfl (ok_2 (by omega) (by omega)) rfl ?_
        refine o_iret rfl rfl ?_
        first
          | (exfalso; omega; done)
          | (have hw : w = 0 := by omega
             refine ⟨congrArg (fun z => some (vI z)) ?_, FJ_refl h6⟩
             rw [show inS g i w = inu g i w from cif_t (by omega)]
             unfold inu
             rw [cif_t hw])
          | (have hw : w = 1 := by omega
             refine ⟨congrArg (fun z => some (vI z)) ?_, FJ_refl h6⟩
             rw [show inS g i w = inu g i w from cif_t (by omega)]
             unfold inu
             rw [cif_f (by omega), cif_t hw]
             rw [st0]
             exact fi_congr (fun j j0 j1 => by unfold rm7 rm8; rw [(hst.2.2.2 j j0 (by omega)).1]))
          | (have hw : w = 2 := by omega
             refine ⟨congrArg (fun z => some (vI z)) ?_, FJ_refl h6⟩
             rw [show inS g i w = inu g i w from cif_t (by omega)]
             unfold inu
             rw [cif_f (by omega), cif_f (by omega), cif_t hw]
             exact (hru.2.2 i (by omega) (by omega)).1)
          | (have hw : w = 3 := by omega
             refine ⟨congrArg (fun z => some (vI z)) ?_, f1⟩
             rw [show inS g i w = inu g i w from cif_t (by omega)]
             unfold inu
             rw [cif_f (by omega), cif_f (by omega), cif_f (by omega), cif_t hw]
             first | rw [bi_t (by assumption)] | rw [bi_f (by omega)])
          | (have hw : w = 4 := by omega
             refine ⟨congrArg (fun z => some (vI z)) ?_, f1⟩
             rw [show inS g i w = inu g i w from cif_t (by omega)]
             unfold inu
             rw [cif_f (by omega), cif_f (by omega), cif_f (by omega), cif_f (by omega), cif_t hw]
             first | rw [bi_t (by assumption)] | rw [bi_f (by assumption)])
          | (have hw : w = 5 := by omega
             refine ⟨congrArg (fun z => some (vI z)) ?_, FJ_refl h6⟩
             rw [show inS g i w = inu g i w from cif_t (by omega)]
             unfold inu
             rw [cif_f (by omega), cif_f (by omega), cif_f (by omega), cif_f (by omega), cif_f (by omega)]
             rw [wd0]
             exact ctn_congr (fun j j0 j1 => at_eq hru hwd (by omega) (by omega) j0))
          | (refine ⟨congrArg (fun z => some (vI z)) ?_, FJ_refl h6⟩
             unfold inS
             rw [cif_f (by omega)])
      · change Ou _ 81 _ _ _ _ _
        refine o_aload_n (n := 82) rfl rfl rfl ?_
        refine o_aload_n (n := 83) rfl rfl rfl ?_
        refine of_7_2 (n := 86) hS rfl rfl ?_
        refine o_iload_n (n := 87) rfl rfl rfl ?_
        refine o_ra14 (n := 88) hR rfl rfl (by omega) (by omega) (fun hA87 hB87 => ?_)
        refine o_aload_n (n := 89) rfl rfl rfl ?_
        refine of_7_5 (n := 92) hS rfl rfl ?_
        obtain ⟨g1, r1, hc, f1⟩ := c7_judge8 hI (i := i) (by omega) (by omega)
        refine o_invi (n := 95) rfl rfl rfl rfl rfl rfl rfl rfl rfl rfl (hc) ?_
        refine o_if_eq (n := 98) (t := 102) rfl rfl rfl (fun q95 => ?_) (fun q95 => ?_)
        · refine o_iconst (n := 103) rfl rfl ?_
          refine o_invsi (n := 106) rfl rfl rfl rfl rfl rfl (by first | exact c7_b1 | exact c7_b0) ?_
          refine o_iret rfl rfl ?_
          first
            | (exfalso; omega; done)
            | (have hw : w = 0 := by omega
               refine ⟨congrArg (fun z => some (vI z)) ?_, FJ_refl h6⟩
               rw [show inS g i w = inu g i w from cif_t (by omega)]
               unfold inu
               rw [cif_t hw])
            | (have hw : w = 1 := by omega
               refine ⟨congrArg (fun z => some (vI z)) ?_, FJ_refl h6⟩
               rw [show inS g i w = inu g i w from cif_t (by omega)]
               unfold inu
               rw [cif_f (by omega), cif_t hw]
               rw [st0]
               exact fi_congr (fun j j0 j1 => by unfold rm7 rm8; rw [(hst.2.2.2 j j0 (by omega)).1]))
            | (have hw : w = 2 := by omega
               refine ⟨congrArg (fun z => some (vI z)) ?_, FJ_refl h6⟩
               rw [show inS g i w = inu g i w from cif_t (by omega)]
               unfold inu
               rw [cif_f (by omega), cif_f (by omega), cif_t hw]
               exact (hru.2.2 i (by omega) (by omega)).1)
            | (have hw : w = 3 := by omega
               refine ⟨congrArg (fun z => some (vI z)) ?_, f1⟩
               rw [show inS g i w = inu g i w from cif_t (by omega)]
               unfold inu
               rw [cif_f (by omega), cif_f (by omega), cif_f (by omega), cif_t hw]
               first | rw [bi_t (by assumption)] | rw [bi_f (by omega)])
            | (have hw : w = 4 := by omega
               refine ⟨congrArg (fun z => some (vI z)) ?_, f1⟩
               rw [show inS g i w = inu g i w from cif_t (by omega)]
               unfold inu
               rw [cif_f (by omega), cif_f (by omega), cif_f (by omega), cif_f (by omega), cif_t hw]
               first | rw [bi_t (by assumption)] | rw [bi_f (by assumption)])
            | (have hw : w = 5 := by omega
               refine ⟨congrArg (fun z => some (vI z)) ?_, FJ_refl h6⟩
               rw [show inS g i w = inu g i w from cif_t (by omega)]
               unfold inu
               rw [cif_f (by omega), cif_f (by omega), cif_f (by omega), cif_f (by omega), cif_f (by omega)]
               rw [wd0]
               exact ctn_congr (fun j j0 j1 => at_eq hru hwd (by omega) (by omega) j0))
            | (refine ⟨congrArg (fun z => some (vI z)) ?_, FJ_refl h6⟩
               unfold inS
               rw [cif_f (by omega)])
        · refine o_iconst (n := 99) rfl rfl ?_
          refine o_goto (t := 103) rfl rfl ?_
          refine o_invsi (n := 106) rfl rfl rfl rfl rfl rfl (by first | exact c7_b1 | exact c7_b0) ?_
          refine o_iret rfl rfl ?_
          first
            | (exfalso; omega; done)
            | (have hw : w = 0 := by omega
               refine ⟨congrArg (fun z => some (vI z)) ?_, FJ_refl h6⟩
               rw [show inS g i w = inu g i w from cif_t (by omega)]
               unfold inu
               rw [cif_t hw])
            | (have hw : w = 1 := by omega
               refine ⟨congrArg (fun z => some (vI z)) ?_, FJ_refl h6⟩
               rw [show inS g i w = inu g i w from cif_t (by omega)]
               unfold inu
               rw [cif_f (by omega), cif_t hw]
               rw [st0]
               exact fi_congr (fun j j0 j1 => by unfold rm7 rm8; rw [(hst.2.2.2 j j0 (by omega)).1]))
            | (have hw : w = 2 := by omega
               refine ⟨congrArg (fun z => some (vI z)) ?_, FJ_refl h6⟩
               rw [show inS g i w = inu g i w from cif_t (by omega)]
               unfold inu
               rw [cif_f (by omega), cif_f (by omega), cif_t hw]
               exact (hru.2.2 i (by omega) (by omega)).1)
            | (have hw : w = 3 := by omega
               refine ⟨congrArg (fun z => some (vI z)) ?_, f1⟩
               rw [show inS g i w = inu g i w from cif_t (by omega)]
               unfold inu
               rw [cif_f (by omega), cif_f (by omega), cif_f (by omega), cif_t hw]
               first | rw [bi_t (by assumption)] | rw [bi_f (by omega)])
            | (have hw : w = 4 := by omega
               refine ⟨congrArg (fun z => some (vI z)) ?_, f1⟩
               rw [show inS g i w = inu g i w from cif_t (by omega)]
               unfold inu
               rw [cif_f (by omega), cif_f (by omega), cif_f (by omega), cif_f (by omega), cif_t hw]
               first | rw [bi_t (by assumption)] | rw [bi_f (by assumption)])
            | (have hw : w = 5 := by omega
               refine ⟨congrArg (fun z => some (vI z)) ?_, FJ_refl h6⟩
               rw [show inS g i w = inu g i w from cif_t (by omega)]
               unfold inu
               rw [cif_f (by omega), cif_f (by omega), cif_f (by omega), cif_f (by omega), cif_f (by omega)]
               rw [wd0]
               exact ctn_congr (fun j j0 j1 => at_eq hru hwd (by omega) (by omega) j0))
            | (refine ⟨congrArg (fun z => some (vI z)) ?_, FJ_refl h6⟩
               unfold inS
               rw [cif_f (by omega)])
      · change Ou _ 107 _ _ _ _ _
        refine o_aload_n (n := 108) rfl rfl rfl ?_
        refine o_aload_n (n := 109) rfl rfl rfl ?_
        refine of_7_2 (n := 112) hS rfl rfl ?_
        refine o_iload_n (n := 113) rfl rfl rfl ?_
        refine o_ra14 (n := 114) hR rfl rfl (by omega) (by omega) (fun hA113 hB113 => ?_)
        refine o_aload_n (n := 115) rfl rfl rfl ?_
        refine of_7_5 (n := 118) hS rfl rfl ?_
        obtain ⟨g1, r1, hc, f1⟩ := c7_judge8 hI (i := i) (by omega) (by omega)
        refine o_invi (n := 121) rfl rfl rfl rfl rfl rfl rfl rfl rfl rfl (hc) ?_
        refine o_iconst (n := 122) rfl rfl ?_
        refine o_icmp_ne (n := 125) (t := 129) rfl rfl rfl (fun q122 => ?_) (fun q122 => ?_)
        · refine o_iconst (n := 130) rfl rfl ?_
          refine o_invsi (n := 133) rfl rfl rfl rfl rfl rfl (by first | exact c7_b1 | exact c7_b0) ?_
          refine o_iret rfl rfl ?_
          first
            | (exfalso; omega; done)
            | (have hw : w = 0 := by omega
               refine ⟨congrArg (fun z => some (vI z)) ?_, FJ_refl h6⟩
               rw [show inS g i w = inu g i w from cif_t (by omega)]
               unfold inu
               rw [cif_t hw])
            | (have hw : w = 1 := by omega
               refine ⟨congrArg (fun z => some (vI z)) ?_, FJ_refl h6⟩
               rw [show inS g i w = inu g i w from cif_t (by omega)]
               unfold inu
               rw [cif_f (by omega), cif_t hw]
               rw [st0]
               exact fi_congr (fun j j0 j1 => by unfold rm7 rm8; rw [(hst.2.2.2 j j0 (by omega)).1]))
            | (have hw : w = 2 := by omega
               refine ⟨congrArg (fun z => some (vI z)) ?_, FJ_refl h6⟩
               rw [show inS g i w = inu g i w from cif_t (by omega)]
               unfold inu
               rw [cif_f (by omega), cif_f (by omega), cif_t hw]
               exact (hru.2.2 i (by omega) (by omega)).1)
            | (have hw : w = 3 := by omega
               refine ⟨congrArg (fun z => some (vI z)) ?_, f1⟩
               rw [show inS g i w = inu g i w from cif_t (by omega)]
               unfold inu
               rw [cif_f (by omega), cif_f (by omega), cif_f (by omega), cif_t hw]
               first | rw [bi_t (by assumption)] | rw [bi_f (by omega)])
            | (have hw : w = 4 := by omega
               refine ⟨congrArg (fun z => some (vI z)) ?_, f1⟩
               rw [show inS g i w = inu g i w from cif_t (by omega)]
               unfold inu
               rw [cif_f (by omega), cif_f (by omega), cif_f (by omega), cif_f (by omega), cif_t hw]
               first | rw [bi_t (by assumption)] | rw [bi_f (by assumption)])
            | (have hw : w = 5 := by omega
               refine ⟨congrArg (fun z => some (vI z)) ?_, FJ_refl h6⟩
               rw [show inS g i w = inu g i w from cif_t (by omega)]
               unfold inu
               rw [cif_f (by omega), cif_f (by omega), cif_f (by omega), cif_f (by omega), cif_f (by omega)]
               rw [wd0]
               exact ctn_congr (fun j j0 j1 => at_eq hru hwd (by omega) (by omega) j0))
            | (refine ⟨congrArg (fun z => some (vI z)) ?_, FJ_refl h6⟩
               unfold inS
               rw [cif_f (by omega)])
        · refine o_iconst (n := 126) rfl rfl ?_
          refine o_goto (t := 130) rfl rfl ?_
          refine o_invsi (n := 133) rfl rfl rfl rfl rfl rfl (by first | exact c7_b1 | exact c7_b0) ?_
          refine o_iret rfl rfl ?_
          first
            | (exfalso; omega; done)
            | (have hw : w = 0 := by omega
               refine ⟨congrArg (fun z => some (vI z)) ?_, FJ_refl h6⟩
               rw [show inS g i w = inu g i w from cif_t (by omega)]
               unfold inu
               rw [cif_t hw])
            | (have hw : w = 1 := by omega
               refine ⟨congrArg (fun z => some (vI z)) ?_, FJ_refl h6⟩
               rw [show inS g i w = inu g i w from cif_t (by omega)]
               unfold inu
               rw [cif_f (by omega), cif_t hw]
               rw [st0]
               exact fi_congr (fun j j0 j1 => by unfold rm7 rm8; rw [(hst.2.2.2 j j0 (by omega)).1]))
            | (have hw : w = 2 := by omega
               refine ⟨congrArg (fun z => some (vI z)) ?_, FJ_refl h6⟩
               rw [show inS g i w = inu g i w from cif_t (by omega)]
               unfold inu
               rw [cif_f (by omega), cif_f (by omega), cif_t hw]
               exact (hru.2.2 i (by omega) (by omega)).1)
            | (have hw : w = 3 := by omega
               refine ⟨congrArg (fun z => some (vI z)) ?_, f1⟩
               rw [show inS g i w = inu g i w from cif_t (by omega)]
               unfold inu
               rw [cif_f (by omega), cif_f (by omega), cif_f (by omega), cif_t hw]
               first | rw [bi_t (by assumption)] | rw [bi_f (by omega)])
            | (have hw : w = 4 := by omega
               refine ⟨congrArg (fun z => some (vI z)) ?_, f1⟩
               rw [show inS g i w = inu g i w from cif_t (by omega)]
               unfold inu
               rw [cif_f (by omega), cif_f (by omega), cif_f (by omega), cif_f (by omega), cif_t hw]
               first | rw [bi_t (by assumption)] | rw [bi_f (by assumption)])
            | (have hw : w = 5 := by omega
               refine ⟨congrArg (fun z => some (vI z)) ?_, FJ_refl h6⟩
               rw [show inS g i w = inu g i w from cif_t (by omega)]
               unfold inu
               rw [cif_f (by omega), cif_f (by omega), cif_f (by omega), cif_f (by omega), cif_f (by omega)]
               rw [wd0]
               exact ctn_congr (fun j j0 j1 => at_eq hru hwd (by omega) (by omega) j0))
            | (refine ⟨congrArg (fun z => some (vI z)) ?_, FJ_refl h6⟩
               unfold inS
               rw [cif_f (by omega)])
      · change Ou _ 134 _ _ _ _ _
        refine o_aload_n (n := 135) rfl rfl rfl ?_
        refine of_7_1 (n := 138) hS rfl rfl ?_
        refine o_aload_n (n := 139) rfl rfl rfl ?_
        refine of_7_2 (n := 142) hS rfl rfl ?_
        refine o_iload_n (n := 143) rfl rfl rfl ?_
        refine o_ra14 (n := 144) hR rfl rfl (by omega) (by omega) (fun hA143 hB143 => ?_)
        refine of_2_0 (n := 147) hS rfl rfl (by omega) (by omega) ?_
        have hsd := ru_s hru (k := i) (s := 0) (by omega) (by omega) (Or.inl rfl)
        rw [Int.add_zero, Int.add_zero] at hsd
        refine o_invi (n := 150) rfl rfl rfl rfl rfl rfl rfl rfl rfl (ok_1 (by omega) (by omega)) (c1_placesOf hS _ (by omega) (by omega) (by omega) (by omega) (by rw [al10 (by omega)]; omega) (by omega) (by omega)) ?_
        refine o_iret rfl rfl ?_
        first
          | (exfalso; omega; done)
          | (have hw : w = 0 := by omega
             refine ⟨congrArg (fun z => some (vI z)) ?_, FJ_refl h6⟩
             rw [show inS g i w = inu g i w from cif_t (by omega)]
             unfold inu
             rw [cif_t hw])
          | (have hw : w = 1 := by omega
             refine ⟨congrArg (fun z => some (vI z)) ?_, FJ_refl h6⟩
             rw [show inS g i w = inu g i w from cif_t (by omega)]
             unfold inu
             rw [cif_f (by omega), cif_t hw]
             rw [st0]
             exact fi_congr (fun j j0 j1 => by unfold rm7 rm8; rw [(hst.2.2.2 j j0 (by omega)).1]))
          | (have hw : w = 2 := by omega
             refine ⟨congrArg (fun z => some (vI z)) ?_, FJ_refl h6⟩
             rw [show inS g i w = inu g i w from cif_t (by omega)]
             unfold inu
             rw [cif_f (by omega), cif_f (by omega), cif_t hw]
             exact (hru.2.2 i (by omega) (by omega)).1)
          | (have hw : w = 3 := by omega
             refine ⟨congrArg (fun z => some (vI z)) ?_, f1⟩
             rw [show inS g i w = inu g i w from cif_t (by omega)]
             unfold inu
             rw [cif_f (by omega), cif_f (by omega), cif_f (by omega), cif_t hw]
             first | rw [bi_t (by assumption)] | rw [bi_f (by omega)])
          | (have hw : w = 4 := by omega
             refine ⟨congrArg (fun z => some (vI z)) ?_, f1⟩
             rw [show inS g i w = inu g i w from cif_t (by omega)]
             unfold inu
             rw [cif_f (by omega), cif_f (by omega), cif_f (by omega), cif_f (by omega), cif_t hw]
             first | rw [bi_t (by assumption)] | rw [bi_f (by assumption)])
          | (have hw : w = 5 := by omega
             refine ⟨congrArg (fun z => some (vI z)) ?_, FJ_refl h6⟩
             rw [show inS g i w = inu g i w from cif_t (by omega)]
             unfold inu
             rw [cif_f (by omega), cif_f (by omega), cif_f (by omega), cif_f (by omega), cif_f (by omega)]
             rw [wd0]
             exact ctn_congr (fun j j0 j1 => at_eq hru hwd (by omega) (by omega) j0))
          | (refine ⟨congrArg (fun z => some (vI z)) ?_, FJ_refl h6⟩
             unfold inS
             rw [cif_f (by omega)])
  · refine o_bipush (n := 10) rfl rfl ?_
    refine o_iret rfl rfl ?_
    first
      | (exfalso; omega; done)
      | (have hw : w = 0 := by omega
         refine ⟨congrArg (fun z => some (vI z)) ?_, FJ_refl h6⟩
         rw [show inS g i w = inu g i w from cif_t (by omega)]
         unfold inu
         rw [cif_t hw])
      | (have hw : w = 1 := by omega
         refine ⟨congrArg (fun z => some (vI z)) ?_, FJ_refl h6⟩
         rw [show inS g i w = inu g i w from cif_t (by omega)]
         unfold inu
         rw [cif_f (by omega), cif_t hw]
         rw [st0]
         exact fi_congr (fun j j0 j1 => by unfold rm7 rm8; rw [(hst.2.2.2 j j0 (by omega)).1]))
      | (have hw : w = 2 := by omega
         refine ⟨congrArg (fun z => some (vI z)) ?_, FJ_refl h6⟩
         rw [show inS g i w = inu g i w from cif_t (by omega)]
         unfold inu
         rw [cif_f (by omega), cif_f (by omega), cif_t hw]
         exact (hru.2.2 i (by omega) (by omega)).1)
      | (have hw : w = 3 := by omega
         refine ⟨congrArg (fun z => some (vI z)) ?_, f1⟩
         rw [show inS g i w = inu g i w from cif_t (by omega)]
         unfold inu
         rw [cif_f (by omega), cif_f (by omega), cif_f (by omega), cif_t hw]
         first | rw [bi_t (by assumption)] | rw [bi_f (by omega)])
      | (have hw : w = 4 := by omega
         refine ⟨congrArg (fun z => some (vI z)) ?_, f1⟩
         rw [show inS g i w = inu g i w from cif_t (by omega)]
         unfold inu
         rw [cif_f (by omega), cif_f (by omega), cif_f (by omega), cif_f (by omega), cif_t hw]
         first | rw [bi_t (by assumption)] | rw [bi_f (by assumption)])
      | (have hw : w = 5 := by omega
         refine ⟨congrArg (fun z => some (vI z)) ?_, FJ_refl h6⟩
         rw [show inS g i w = inu g i w from cif_t (by omega)]
         unfold inu
         rw [cif_f (by omega), cif_f (by omega), cif_f (by omega), cif_f (by omega), cif_f (by omega)]
         rw [wd0]
         exact ctn_congr (fun j j0 j1 => at_eq hru hwd (by omega) (by omega) j0))
      | (refine ⟨congrArg (fun z => some (vI z)) ?_, FJ_refl h6⟩
         unfold inS
         rw [cif_f (by omega)])
