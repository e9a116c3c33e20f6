/-! info of the reference; the pair. Written by wip/gen/gen41.py -/
theorem c8_infoBy {c : Int} {g r : GI} (hI : Iv c g g r) {i w : Int} (i0 : 0 ≤ i) (i1 : i < g 8 0 8) (w0 : 0 ≤ w) (w1 : w ≤ 5) : Ou 145 0 (am_ini 145 [vR 8 0, vI i, vI w]) [] g r (fun v g1 r1 => v = some (vI (inu g i w)) ∧ r1 = r ∧ F8 g g1) := by
  show Ou 145 0 [vR 8 0, vI i, vI w] [] g r _
  obtain ⟨⟨hS, hR, h6, hP⟩, hsg, htx, hru, hwd, hnw, hst, hsh, hla⟩ := id hI
  obtain ⟨sg1, sg2, sg3⟩ := hI.2.1
  obtain ⟨tx1, tx2, tx3, tx4⟩ := hI.2.2.1
  have ru0 : g 7 0 10 = g 8 0 8 := hI.2.2.2.1.1.1
  have ru1 := hI.2.2.2.1.2.1.1
  have wd0 : g 1 0 1 = g 8 0 14 := hI.2.2.2.2.1.1.1
  have wd1 := hI.2.2.2.2.1.2.1.1
  have wd2 := hI.2.2.2.2.1.2.2
  have nw0 : g 0 0 0 = g 27 0 8 := hI.2.2.2.2.2.1.1.1
  have nw1 : g 0 0 1 = g 28 0 8 := hI.2.2.2.2.2.1.1.2.1
  have nw2 := hI.2.2.2.2.2.1.2.1
  have nw3 := hI.2.2.2.2.2.1.2.2.1
  have st0 := hI.2.2.2.2.2.2.1.1
  have st1 := hI.2.2.2.2.2.2.1.2.1
  have st2 := hI.2.2.2.2.2.2.1.2.2.1
  have la0 : g 7 0 13 = g 8 0 4 := hI.2.2.2.2.2.2.2.2
  have hgr := gr_r (ρ := g 27 0 8) (n := g 28 0 8) (E := E8 g 8) (L := L8 g) (W := W8 g) (i := i)
  have hg8 : gr8 g i = gr (g 27 0 8) (g 28 0 8) (E8 g 8) (L8 g) (W8 g) i := rfl
  rw [← hg8] at hgr
  have hsd := ru_s hru (k := i) (s := 0) (by omega) (by omega) (Or.inl rfl)
  rw [Int.add_zero, Int.add_zero] at hsd
  refine o_iload_n (n := 1) rfl rfl rfl ?_
  refine o_tabC (td := 99) rfl rfl (fun z1 => ?_) (fun j hj z1 => ?_)
  · refine o_aload_n (n := 100) rfl rfl rfl ?_
    refine o_iload_n (n := 101) rfl rfl rfl ?_
    refine o_invi (n := 104) rfl rfl rfl rfl rfl rfl rfl rfl rfl rfl (c8_placesOf hS i i0 (by omega) (by omega) (by omega) (by omega) (by omega)) ?_
    refine o_iret rfl rfl ?_
    first
      | (exfalso; omega; done)
      | (have hw : w = 0 := by omega
         refine ⟨congrArg (fun z => some (vI z)) ?_, rfl, F8_refl g⟩
         unfold inu
         rw [cif_t hw]
         first | rw [bi_t (by assumption)] | rw [bi_f (by assumption)])
      | (have hw : w = 1 := by omega
         refine ⟨congrArg (fun z => some (vI z)) ?_, rfl, F8_refl g⟩
         unfold inu
         rw [cif_f (by omega), cif_t hw])
      | (have hw : w = 2 := by omega
         refine ⟨congrArg (fun z => some (vI z)) ?_, rfl, F8_refl g⟩
         unfold inu
         rw [cif_f (by omega), cif_f (by omega), cif_t hw])
      | (have hw : w = 3 := by omega
         refine ⟨congrArg (fun z => some (vI z)) ?_, rfl, f1⟩
         unfold inu
         rw [cif_f (by omega), cif_f (by omega), cif_f (by omega), cif_t hw]
         first | rw [bi_t (by omega)] | rw [bi_f (by omega)])
      | (have hw : w = 4 := by omega
         refine ⟨congrArg (fun z => some (vI z)) ?_, rfl, f1⟩
         unfold inu
         rw [cif_f (by omega), cif_f (by omega), cif_f (by omega), cif_f (by omega), cif_t hw]
         first | rw [bi_t (by assumption)] | rw [bi_f (by assumption)])
      | (have hw : w = 5 := by omega
         refine ⟨congrArg (fun z => some (vI z)) ?_, rfl, F8_refl g⟩
         unfold inu
         rw [cif_f (by omega), cif_f (by omega), cif_f (by omega), cif_f (by omega), cif_f (by omega)])
    
  · rcases (show j = 0 ∨ j = 1 ∨ j = 2 ∨ j = 3 ∨ j = 4 by omega) with ej | ej | ej | ej | ej <;> subst ej
    · change Ou _ 36 _ _ _ _ _
      refine o_aload_n (n := 37) rfl rfl rfl ?_
      refine o_geti (n := 40) rfl rfl rfl rfl rfl ?_
      refine o_iload_n (n := 41) rfl rfl rfl ?_
      refine o_invsi (n := 44) rfl rfl rfl rfl rfl rfl (c8_isIn _ _) ?_
      refine o_ifb_eq (n := 47) (t := 51) rfl rfl rfl (fun z44 => ?_) (fun z44 => ?_)
      · refine o_iconst (n := 52) rfl rfl ?_
        refine o_iret rfl rfl ?_
        first
          | (exfalso; omega; done)
          | (have hw : w = 0 := by omega
             refine ⟨congrArg (fun z => some (vI z)) ?_, rfl, F8_refl g⟩
             unfold inu
             rw [cif_t hw]
             first | rw [bi_t (by assumption)] | rw [bi_f (by assumption)])
          | (have hw : w = 1 := by omega
             refine ⟨congrArg (fun z => some (vI z)) ?_, rfl, F8_refl g⟩
             unfold inu
             rw [cif_f (by omega), cif_t hw])
          | (have hw : w = 2 := by omega
             refine ⟨congrArg (fun z => some (vI z)) ?_, rfl, F8_refl g⟩
             unfold inu
             rw [cif_f (by omega), cif_f (by omega), cif_t hw])
          | (have hw : w = 3 := by omega
             refine ⟨congrArg (fun z => some (vI z)) ?_, rfl, f1⟩
             unfold inu
             rw [cif_f (by omega), cif_f (by omega), cif_f (by omega), cif_t hw]
             first | rw [bi_t (by omega)] | rw [bi_f (by omega)])
          | (have hw : w = 4 := by omega
             refine ⟨congrArg (fun z => some (vI z)) ?_, rfl, f1⟩
             unfold inu
             rw [cif_f (by omega), cif_f (by omega), cif_f (by omega), cif_f (by omega), cif_t hw]
             first | rw [bi_t (by assumption)] | rw [bi_f (by assumption)])
          | (have hw : w = 5 := by omega
             refine ⟨congrArg (fun z => some (vI z)) ?_, rfl, F8_refl g⟩
             unfold inu
             rw [cif_f (by omega), cif_f (by omega), cif_f (by omega), cif_f (by omega), cif_f (by omega)])
        
      · refine o_iconst (n := 48) rfl rfl ?_
        refine o_goto (t := 52) rfl rfl ?_
        refine o_iret rfl rfl ?_
        first
          | (exfalso; omega; done)
          | (have hw : w = 0 := by omega
             refine ⟨congrArg (fun z => some (vI z)) ?_, rfl, F8_refl g⟩
             unfold inu
             rw [cif_t hw]
             first | rw [bi_t (by assumption)] | rw [bi_f (by assumption)])
          | (have hw : w = 1 := by omega
             refine ⟨congrArg (fun z => some (vI z)) ?_, rfl, F8_refl g⟩
             unfold inu
             rw [cif_f (by omega), cif_t hw])
          | (have hw : w = 2 := by omega
             refine ⟨congrArg (fun z => some (vI z)) ?_, rfl, F8_refl g⟩
             unfold inu
             rw [cif_f (by omega), cif_f (by omega), cif_t hw])
          | (have hw : w = 3 := by omega
             refine ⟨congrArg (fun z => some (vI z)) ?_, rfl, f1⟩
             unfold inu
             rw [cif_f (by omega), cif_f (by omega), cif_f (by omega), cif_t hw]
             first | rw [bi_t (by omega)] | rw [bi_f (by omega)])
          | (have hw : w = 4 := by omega
             refine ⟨congrArg (fun z => some (vI z)) ?_, rfl, f1⟩
             unfold inu
             rw [cif_f (by omega), cif_f (by omega), cif_f (by omega), cif_f (by omega), cif_t hw]
             first | rw [bi_t (by assumption)] | rw [bi_f (by assumption)])
          | (have hw : w = 5 := by omega
             refine ⟨congrArg (fun z => some (vI z)) ?_, rfl, F8_refl g⟩
             unfold inu
             rw [cif_f (by omega), cif_f (by omega), cif_f (by omega), cif_f (by omega), cif_f (by omega)])
        
    · change Ou _ 53 _ _ _ _ _
      refine o_aload_n (n := 54) rfl rfl rfl ?_
      refine o_iload_n (n := 55) rfl rfl rfl ?_
      refine o_invi (n := 58) rfl rfl rfl rfl rfl rfl rfl rfl rfl rfl (c8_removedBy hS (by omega) (by omega) i) ?_
      refine o_iret rfl rfl ?_
      first
        | (exfalso; omega; done)
        | (have hw : w = 0 := by omega
           refine ⟨congrArg (fun z => some (vI z)) ?_, rfl, F8_refl g⟩
           unfold inu
           rw [cif_t hw]
           first | rw [bi_t (by assumption)] | rw [bi_f (by assumption)])
        | (have hw : w = 1 := by omega
           refine ⟨congrArg (fun z => some (vI z)) ?_, rfl, F8_refl g⟩
           unfold inu
           rw [cif_f (by omega), cif_t hw])
        | (have hw : w = 2 := by omega
           refine ⟨congrArg (fun z => some (vI z)) ?_, rfl, F8_refl g⟩
           unfold inu
           rw [cif_f (by omega), cif_f (by omega), cif_t hw])
        | (have hw : w = 3 := by omega
           refine ⟨congrArg (fun z => some (vI z)) ?_, rfl, f1⟩
           unfold inu
           rw [cif_f (by omega), cif_f (by omega), cif_f (by omega), cif_t hw]
           first | rw [bi_t (by omega)] | rw [bi_f (by omega)])
        | (have hw : w = 4 := by omega
           refine ⟨congrArg (fun z => some (vI z)) ?_, rfl, f1⟩
           unfold inu
           rw [cif_f (by omega), cif_f (by omega), cif_f (by omega), cif_f (by omega), cif_t hw]
           first | rw [bi_t (by assumption)] | rw [bi_f (by assumption)])
        | (have hw : w = 5 := by omega
           refine ⟨congrArg (fun z => some (vI z)) ?_, rfl, F8_refl g⟩
           unfold inu
           rw [cif_f (by omega), cif_f (by omega), cif_f (by omega), cif_f (by omega), cif_f (by omega)])
      
    · change Ou _ 59 _ _ _ _ _
      refine o_aload_n (n := 60) rfl rfl rfl ?_
      refine of_8_11 (n := 63) hS rfl rfl ?_
      refine o_iload_n (n := 64) rfl rfl rfl ?_
      refine o_iald (n := 65) (L := 8) rfl rfl rfl rfl rfl (by omega) (by omega) ?_
      refine o_iret rfl rfl ?_
      first
        | (exfalso; omega; done)
        | (have hw : w = 0 := by omega
           refine ⟨congrArg (fun z => some (vI z)) ?_, rfl, F8_refl g⟩
           unfold inu
           rw [cif_t hw]
           first | rw [bi_t (by assumption)] | rw [bi_f (by assumption)])
        | (have hw : w = 1 := by omega
           refine ⟨congrArg (fun z => some (vI z)) ?_, rfl, F8_refl g⟩
           unfold inu
           rw [cif_f (by omega), cif_t hw])
        | (have hw : w = 2 := by omega
           refine ⟨congrArg (fun z => some (vI z)) ?_, rfl, F8_refl g⟩
           unfold inu
           rw [cif_f (by omega), cif_f (by omega), cif_t hw])
        | (have hw : w = 3 := by omega
           refine ⟨congrArg (fun z => some (vI z)) ?_, rfl, f1⟩
           unfold inu
           rw [cif_f (by omega), cif_f (by omega), cif_f (by omega), cif_t hw]
           first | rw [bi_t (by omega)] | rw [bi_f (by omega)])
        | (have hw : w = 4 := by omega
           refine ⟨congrArg (fun z => some (vI z)) ?_, rfl, f1⟩
           unfold inu
           rw [cif_f (by omega), cif_f (by omega), cif_f (by omega), cif_f (by omega), cif_t hw]
           first | rw [bi_t (by assumption)] | rw [bi_f (by assumption)])
        | (have hw : w = 5 := by omega
           refine ⟨congrArg (fun z => some (vI z)) ?_, rfl, F8_refl g⟩
           unfold inu
           rw [cif_f (by omega), cif_f (by omega), cif_f (by omega), cif_f (by omega), cif_f (by omega)])
      
    · change Ou _ 66 _ _ _ _ _
      refine o_aload_n (n := 67) rfl rfl rfl ?_
      refine o_bipush (n := 69) rfl rfl ?_
      refine o_iload_n (n := 70) rfl rfl rfl ?_
      obtain ⟨g1, hc, f1⟩ := c8_grade8 hI (i := i) i0 i1
      refine o_invi (n := 73) rfl rfl rfl rfl rfl rfl rfl rfl rfl rfl (hc) ?_
      refine o_if_le (n := 76) (t := 80) rfl rfl rfl (fun z73 => ?_) (fun z73 => ?_)
      · refine o_iconst (n := 81) rfl rfl ?_
        refine o_iret rfl rfl ?_
        first
          | (exfalso; omega; done)
          | (have hw : w = 0 := by omega
             refine ⟨congrArg (fun z => some (vI z)) ?_, rfl, F8_refl g⟩
             unfold inu
             rw [cif_t hw]
             first | rw [bi_t (by assumption)] | rw [bi_f (by assumption)])
          | (have hw : w = 1 := by omega
             refine ⟨congrArg (fun z => some (vI z)) ?_, rfl, F8_refl g⟩
             unfold inu
             rw [cif_f (by omega), cif_t hw])
          | (have hw : w = 2 := by omega
             refine ⟨congrArg (fun z => some (vI z)) ?_, rfl, F8_refl g⟩
             unfold inu
             rw [cif_f (by omega), cif_f (by omega), cif_t hw])
          | (have hw : w = 3 := by omega
             refine ⟨congrArg (fun z => some (vI z)) ?_, rfl, f1⟩
             unfold inu
             rw [cif_f (by omega), cif_f (by omega), cif_f (by omega), cif_t hw]
             first | rw [bi_t (by omega)] | rw [bi_f (by omega)])
          | (have hw : w = 4 := by omega
             refine ⟨congrArg (fun z => some (vI z)) ?_, rfl, f1⟩
             unfold inu
             rw [cif_f (by omega), cif_f (by omega), cif_f (by omega), cif_f (by omega), cif_t hw]
             first | rw [bi_t (by assumption)] | rw [bi_f (by assumption)])
          | (have hw : w = 5 := by omega
             refine ⟨congrArg (fun z => some (vI z)) ?_, rfl, F8_refl g⟩
             unfold inu
             rw [cif_f (by omega), cif_f (by omega), cif_f (by omega), cif_f (by omega), cif_f (by omega)])
        
      · refine o_iconst (n := 77) rfl rfl ?_
        refine o_goto (t := 81) rfl rfl ?_
        refine o_iret rfl rfl ?_
        first
          | (exfalso; omega; done)
          | (have hw : w = 0 := by omega
             refine ⟨congrArg (fun z => some (vI z)) ?_, rfl, F8_refl g⟩
             unfold inu
             rw [cif_t hw]
             first | rw [bi_t (by assumption)] | rw [bi_f (by assumption)])
          | (have hw : w = 1 := by omega
             refine ⟨congrArg (fun z => some (vI z)) ?_, rfl, F8_refl g⟩
             unfold inu
             rw [cif_f (by omega), cif_t hw])
          | (have hw : w = 2 := by omega
             refine ⟨congrArg (fun z => some (vI z)) ?_, rfl, F8_refl g⟩
             unfold inu
             rw [cif_f (by omega), cif_f (by omega), cif_t hw])
          | (have hw : w = 3 := by omega
             refine ⟨congrArg (fun z => some (vI z)) ?_, rfl, f1⟩
             unfold inu
             rw [cif_f (by omega), cif_f (by omega), cif_f (by omega), cif_t hw]
             first | rw [bi_t (by omega)] | rw [bi_f (by omega)])
          | (have hw : w = 4 := by omega
             refine ⟨congrArg (fun z => some (vI z)) ?_, rfl, f1⟩
             unfold inu
             rw [cif_f (by omega), cif_f (by omega), cif_f (by omega), cif_f (by omega), cif_t hw]
             first | rw [bi_t (by assumption)] | rw [bi_f (by assumption)])
          | (have hw : w = 5 := by omega
             refine ⟨congrArg (fun z => some (vI z)) ?_, rfl, F8_refl g⟩
             unfold inu
             rw [cif_f (by omega), cif_f (by omega), cif_f (by omega), cif_f (by omega), cif_f (by omega)])
        
    · change Ou _ 82 _ _ _ _ _
      refine o_aload_n (n := 83) rfl rfl rfl ?_
      refine o_bipush (n := 85) rfl rfl ?_
      refine o_iload_n (n := 86) rfl rfl rfl ?_
      obtain ⟨g1, hc, f1⟩ := c8_grade8 hI (i := i) i0 i1
      refine o_invi (n := 89) rfl rfl rfl rfl rfl rfl rfl rfl rfl rfl (hc) ?_
      refine o_iconst (n := 90) rfl rfl ?_
      refine o_icmp_ne (n := 93) (t := 97) rfl rfl rfl (fun z90 => ?_) (fun z90 => ?_)
      · refine o_iconst (n := 98) rfl rfl ?_
        refine o_iret rfl rfl ?_
        first
          | (exfalso; omega; done)
          | (have hw : w = 0 := by omega
             refine ⟨congrArg (fun z => some (vI z)) ?_, rfl, F8_refl g⟩
             unfold inu
             rw [cif_t hw]
             first | rw [bi_t (by assumption)] | rw [bi_f (by assumption)])
          | (have hw : w = 1 := by omega
             refine ⟨congrArg (fun z => some (vI z)) ?_, rfl, F8_refl g⟩
             unfold inu
             rw [cif_f (by omega), cif_t hw])
          | (have hw : w = 2 := by omega
             refine ⟨congrArg (fun z => some (vI z)) ?_, rfl, F8_refl g⟩
             unfold inu
             rw [cif_f (by omega), cif_f (by omega), cif_t hw])
          | (have hw : w = 3 := by omega
             refine ⟨congrArg (fun z => some (vI z)) ?_, rfl, f1⟩
             unfold inu
             rw [cif_f (by omega), cif_f (by omega), cif_f (by omega), cif_t hw]
             first | rw [bi_t (by omega)] | rw [bi_f (by omega)])
          | (have hw : w = 4 := by omega
             refine ⟨congrArg (fun z => some (vI z)) ?_, rfl, f1⟩
             unfold inu
             rw [cif_f (by omega), cif_f (by omega), cif_f (by omega), cif_f (by omega), cif_t hw]
             first | rw [bi_t (by assumption)] | rw [bi_f (by assumption)])
          | (have hw : w = 5 := by omega
             refine ⟨congrArg (fun z => some (vI z)) ?_, rfl, F8_refl g⟩
             unfold inu
             rw [cif_f (by omega), cif_f (by omega), cif_f (by omega), cif_f (by omega), cif_f (by omega)])
        
      · refine o_iconst (n := 94) rfl rfl ?_
        refine o_goto (t := 98) rfl rfl ?_
        refine o_iret rfl rfl ?_
        first
          | (exfalso; omega; done)
          | (have hw : w = 0 := by omega
             refine ⟨congrArg (fun z => some (vI z)) ?_, rfl, F8_refl g⟩
             unfold inu
             rw [cif_t hw]
             first | rw [bi_t (by assumption)] | rw [bi_f (by assumption)])
          | (have hw : w = 1 := by omega
             refine ⟨congrArg (fun z => some (vI z)) ?_, rfl, F8_refl g⟩
             unfold inu
             rw [cif_f (by omega), cif_t hw])
          | (have hw : w = 2 := by omega
             refine ⟨congrArg (fun z => some (vI z)) ?_, rfl, F8_refl g⟩
             unfold inu
             rw [cif_f (by omega), cif_f (by omega), cif_t hw])
          | (have hw : w = 3 := by omega
             refine ⟨congrArg (fun z => some (vI z)) ?_, rfl, f1⟩
             unfold inu
             rw [cif_f (by omega), cif_f (by omega), cif_f (by omega), cif_t hw]
             first | rw [bi_t (by omega)] | rw [bi_f (by omega)])
          | (have hw : w = 4 := by omega
             refine ⟨congrArg (fun z => some (vI z)) ?_, rfl, f1⟩
             unfold inu
             rw [cif_f (by omega), cif_f (by omega), cif_f (by omega), cif_f (by omega), cif_t hw]
             first | rw [bi_t (by assumption)] | rw [bi_f (by assumption)])
          | (have hw : w = 5 := by omega
             refine ⟨congrArg (fun z => some (vI z)) ?_, rfl, F8_refl g⟩
             unfold inu
             rw [cif_f (by omega), cif_f (by omega), cif_f (by omega), cif_f (by omega), cif_f (by omega)])
        
theorem C8_info (i : Int) (w : Int) : C8 146 [vI i, vI w] (fun g => vI (inS g i w)) := by
  intro c g r hc0 hc1 hI
  have hI' := hI
  obtain ⟨⟨hS, hR, h6, hP⟩, hsg, htx, hru, hwd, hnw, hst, hsh, hla⟩ := hI'
  show Ou 146 0 [vR 8 0, vI i, vI w] [] g r (fun xx g1 r1 => xx = some (vI (inS g i w)) ∧ r1 = r ∧ F8 g g1)
  obtain ⟨sg1, sg2, sg3⟩ := hI.2.1
  obtain ⟨tx1, tx2, tx3, tx4⟩ := hI.2.2.1
  have ru0 : g 7 0 10 = g 8 0 8 := hI.2.2.2.1.1.1
  have ru1 := hI.2.2.2.1.2.1.1
  have wd0 : g 1 0 1 = g 8 0 14 := hI.2.2.2.2.1.1.1
  have wd1 := hI.2.2.2.2.1.2.1.1
  have wd2 := hI.2.2.2.2.1.2.2
  have nw0 : g 0 0 0 = g 27 0 8 := hI.2.2.2.2.2.1.1.1
  have nw1 : g 0 0 1 = g 28 0 8 := hI.2.2.2.2.2.1.1.2.1
  have nw2 := hI.2.2.2.2.2.1.2.1
  have nw3 := hI.2.2.2.2.2.1.2.2.1
  have st0 := hI.2.2.2.2.2.2.1.1
  have st1 := hI.2.2.2.2.2.2.1.2.1
  have st2 := hI.2.2.2.2.2.2.1.2.2.1
  have la0 : g 7 0 13 = g 8 0 4 := hI.2.2.2.2.2.2.2.2
  refine o_aload_n (n := 1) rfl rfl rfl ?_
  refine o_iload_n (n := 2) rfl rfl rfl ?_
  refine o_invi (n := 5) rfl rfl rfl rfl rfl rfl rfl rfl rfl rfl (c8_isRule _ (by omega) (by omega)) ?_
  refine o_ifb_eq (n := 8) (t := 29) rfl rfl rfl (fun k5 => ?_) (fun k5 => ?_)
  · refine o_bipush (n := 31) rfl rfl ?_
    refine o_iret rfl rfl ?_
    first
      | (exfalso; omega; done)
      | (have hf := f1
         refine ⟨congrArg (fun z => some (vI z)) ?_, rfl, hf⟩
         unfold inS
         rw [cif_t (by omega)])
      | (refine ⟨congrArg (fun z => some (vI z)) ?_, rfl, F8_refl g⟩
         unfold inS
         rw [cif_f (by omega)])
  · refine o_iload_n (n := 9) rfl rfl rfl ?_
    refine o_i2l (n := 10) rfl rfl ?_
    refine o_lconst (n := 11) rfl rfl ?_
    refine o_ldc2_w (n := 14) rfl rfl ?_
    refine o_invsi (n := 17) rfl rfl rfl rfl rfl rfl (c8_in _ _ _) ?_
    refine o_ifb_eq (n := 20) (t := 29) rfl rfl rfl (fun k17 => ?_) (fun k17 => ?_)
    · refine o_bipush (n := 31) rfl rfl ?_
      refine o_iret rfl rfl ?_
      first
        | (exfalso; omega; done)
        | (have hf := f1
           refine ⟨congrArg (fun z => some (vI z)) ?_, rfl, hf⟩
           unfold inS
           rw [cif_t (by omega)])
        | (refine ⟨congrArg (fun z => some (vI z)) ?_, rfl, F8_refl g⟩
           unfold inS
           rw [cif_f (by omega)])
    · refine o_aload_n (n := 21) rfl rfl rfl ?_
      refine o_iload_n (n := 22) rfl rfl rfl ?_
      refine o_iload_n (n := 23) rfl rfl rfl ?_
      obtain ⟨v1, g1, r1, hc, hv, hr, f1⟩ := rt_ex (c8_infoBy hI (i := i) (w := w) (by omega) (by omega) (by omega) (by omega))
      subst hv
      subst hr
      refine o_invi (n := 26) rfl rfl rfl rfl rfl rfl rfl rfl rfl rfl (hc) ?_
      refine o_goto (t := 31) rfl rfl ?_
      refine o_iret rfl rfl ?_
      first
        | (exfalso; omega; done)
        | (have hf := f1
           refine ⟨congrArg (fun z => some (vI z)) ?_, rfl, hf⟩
           unfold inS
           rw [cif_t (by omega)])
        | (refine ⟨congrArg (fun z => some (vI z)) ?_, rfl, F8_refl g⟩
           unfold inS
           rw [cif_f (by omega)])
theorem p_info (i w : Int) : Pr 52 146 [vI i, vI w] := pr_of (C7_info i w) (C8_info i w) (inS_m i w)
