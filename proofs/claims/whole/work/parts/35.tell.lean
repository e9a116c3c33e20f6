/-! contracts of what tells the state: side, entry, kept, letter, sound, ends. Written by wip/gen/gen35.py -/
noncomputable def sdu (g : GI) (i s k : Int) : Int := cif (k = -1) (g 23 0 (2 * i + s)) (cif (k < g 23 0 (2 * i + s)) (g 22 0 (6 * (2 * i + s) + k)) (-1))
noncomputable def sdS (g : GI) (i s k : Int) : Int := cif ((0 ≤ i ∧ i < g 8 0 8) ∧ (s = 0 ∨ s = 1) ∧ (-1 ≤ k ∧ k ≤ 5)) (sdu g i s k) (-2)
noncomputable def enS (g : GI) (s x y : Int) : Int := cif ((0 ≤ s ∧ s < g 8 0 5) ∧ (0 ≤ x ∧ x < 3) ∧ (0 ≤ y ∧ y < 3)) (g 26 0 (36 * 8 + 9 * s + 3 * x + y)) (-2)
noncomputable def kpS (g : GI) (k s x y : Int) : Int := cif ((0 ≤ k ∧ k < g 8 0 19) ∧ (0 ≤ s ∧ s < g 8 0 5) ∧ (0 ≤ x ∧ x < 3) ∧ (0 ≤ y ∧ y < 3)) (g 26 0 (36 * k + 9 * s + 3 * x + y)) (-2)
noncomputable def ltu (g : GI) (k : Int) : Int := cif (k = -1) (g 8 0 14) (cif (k < g 8 0 14) (g 25 0 k) (-1))
noncomputable def ltS (g : GI) (k : Int) : Int := cif (-1 ≤ k ∧ k ≤ 23) (ltu g k) (-2)
noncomputable def soS (g : GI) : Int := bi (sd (g 27 0 8) (g 28 0 8) (E8 g 8) (g 8 0 5))
noncomputable def scS (g : GI) : Int := ctn (fun j => bt (am_and (st8 g (g 8 0 19)) (g 8 0 12)) j) (g 8 0 8).toNat 0 0
noncomputable def edS (g : GI) : Int := bi (scS g = 0)
theorem st8_m {g h : GI} (h8 : h 8 = g 8) (h29 : h 29 = g 29) (k : Int) : st8 h k = st8 g k := by
  unfold st8
  rw [h8]
  exact lb_congr (fun j _ _ => by unfold rm8; rw [h29])
theorem scS_m : Mf scS := fun g h hm => by
  have h8 := hm 8 (Or.inl rfl) (by decide) (by decide) (by decide)
  unfold scS
  rw [st8_m h8 (hm 29 (Or.inr (by decide)) (by decide) (by decide) (by decide)), h8]
theorem edS_m : Mf (fun g => vI (edS g)) := fun g h hm => by
  show vI (edS h) = vI (edS g)
  unfold edS
  rw [scS_m g h hm]
theorem scS_eq {c : Int} {g r : GI} (hru : Iru c g g r) (hst : Ist g g r) : ctn (ss7 g r (st7 g r (g 7 0 11))) (g 7 0 10).toNat 0 0 = scS g := by
  have ru0 : g 7 0 10 = g 8 0 8 := hru.1.1
  have ru1 := hru.2.1.1
  unfold scS
  rw [st78 hst ru0 (by rw [hst.1]; omega), ru0, hst.1]
  refine ctn_congr (fun j j0 j1 => ?_)
  rw [bt_and (by omega) (by omega)]
  exact and_congr Iff.rfl (hru.2.2 j (by omega) (by omega)).2.2.2
theorem C7_entry (a : Int) (b : Int) (d : Int) : C7 56 [vI a, vI b, vI d] (fun g => vI (enS g a b d)) := by
  intro c g r hc0 hc1 hI
  have hI' := hI
  obtain ⟨⟨hS, hR, h6, hP⟩, hsg, htx, hru, hwd, hnw, hst, hsh, hla⟩ := hI'
  show Ou 56 0 [vR 7 0, vI a, vI b, vI d] [] g r (fun xx g1 r1 => xx = some (vI (enS g a b d)) ∧ FJ g r g1 r1)
  obtain ⟨sg1, sg2, sg3⟩ := hI.2.1
  obtain ⟨tx1, tx2, tx3, tx4⟩ := hI.2.2.1
  have ru0 : g 7 0 10 = g 8 0 8 := hI.2.2.2.1.1.1
  have ru1 := hI.2.2.2.1.2.1.1
  have wd0 : g 1 0 1 = g 8 0 14 := hI.2.2.2.2.1.1.1
  have wd1 := hI.2.2.2.2.1.2.1.1
  have wd2 := hI.2.2.2.2.1.2.2
  have nw0 : g 0 0 0 = g 27 0 8 := hI.2.2.2.2.2.1.1.1
  have nw1 : g 0 0 1 = g 28 0 8 := hI.2.2.2.2.2.1.1.2.1
  have nw2 := hI.2.2.2.2.2.1.2.1
  have nw3 := hI.2.2.2.2.2.1.2.2.1
  have st0 := hI.2.2.2.2.2.2.1.1
  have st1 := hI.2.2.2.2.2.2.1.2.1
  have st2 := hI.2.2.2.2.2.2.1.2.2.1
  have la0 : g 7 0 13 = g 8 0 4 := hI.2.2.2.2.2.2.2.2
  refine o_aload_n (n := 1) rfl rfl rfl ?_
  refine o_iload_n (n := 2) rfl rfl rfl ?_
  refine o_iload_n (n := 3) rfl rfl rfl ?_
  refine o_iload_n (n := 4) rfl rfl rfl ?_
  refine o_invi (n := 7) rfl rfl rfl rfl rfl rfl rfl rfl rfl rfl (c7_isPlace _ _ _) ?_
  refine o_ifb_ne (n := 10) (t := 13) rfl rfl rfl (fun q7 => ?_) (fun q7 => ?_)
  · refine o_aload_n (n := 14) rfl rfl rfl ?_
    refine of_7_5 (n := 17) hS rfl rfl ?_
    refine o_iload_n (n := 18) rfl rfl rfl ?_
    refine o_iload_n (n := 19) rfl rfl rfl ?_
    refine o_iload_n (n := 20) rfl rfl rfl ?_
    refine o_invi (n := 23) rfl rfl rfl rfl rfl rfl rfl rfl rfl (ok_0 (by omega) (by omega)) (c0_entryAt hS _ _ _ _ (by omega) (by omega) (by omega) (by omega) (by omega) (by omega) (by omega) (by omega)) ?_
    refine o_iret rfl rfl ?_
    first
      | (exfalso; omega; done)
      | (refine ⟨congrArg (fun z => some (vI z)) ?_, FJ_refl h6⟩
         unfold enS
         rw [cif_f (by omega)])
      | (refine ⟨congrArg (fun z => some (vI z)) ?_, FJ_refl h6⟩
         unfold enS
         rw [cif_t (by omega)]
         exact nw_e hnw (by omega) (by omega) (by omega) (by omega) (by omega) (by omega))
    
  · refine o_bipush (n := 12) rfl rfl ?_
    refine o_iret rfl rfl ?_
    first
      | (exfalso; omega; done)
      | (refine ⟨congrArg (fun z => some (vI z)) ?_, FJ_refl h6⟩
         unfold enS
         rw [cif_f (by omega)])
      | (refine ⟨congrArg (fun z => some (vI z)) ?_, FJ_refl h6⟩
         unfold enS
         rw [cif_t (by omega)]
         exact nw_e hnw (by omega) (by omega) (by omega) (by omega) (by omega) (by omega))
    
theorem C7_kept (k : Int) (a : Int) (b : Int) (d : Int) : C7 63 [vI k, vI a, vI b, vI d] (fun g => vI (kpS g k a b d)) := by
  intro c g r hc0 hc1 hI
  have hI' := hI
  obtain ⟨⟨hS, hR, h6, hP⟩, hsg, htx, hru, hwd, hnw, hst, hsh, hla⟩ := hI'
  show Ou 63 0 [vR 7 0, vI k, vI a, vI b, vI d] [] g r (fun xx g1 r1 => xx = some (vI (kpS g k a b d)) ∧ FJ g r g1 r1)
  obtain ⟨sg1, sg2, sg3⟩ := hI.2.1
  obtain ⟨tx1, tx2, tx3, tx4⟩ := hI.2.2.1
  have ru0 : g 7 0 10 = g 8 0 8 := hI.2.2.2.1.1.1
  have ru1 := hI.2.2.2.1.2.1.1
  have wd0 : g 1 0 1 = g 8 0 14 := hI.2.2.2.2.1.1.1
  have wd1 := hI.2.2.2.2.1.2.1.1
  have wd2 := hI.2.2.2.2.1.2.2
  have nw0 : g 0 0 0 = g 27 0 8 := hI.2.2.2.2.2.1.1.1
  have nw1 : g 0 0 1 = g 28 0 8 := hI.2.2.2.2.2.1.1.2.1
  have nw2 := hI.2.2.2.2.2.1.2.1
  have nw3 := hI.2.2.2.2.2.1.2.2.1
  have st0 := hI.2.2.2.2.2.2.1.1
  have st1 := hI.2.2.2.2.2.2.1.2.1
  have st2 := hI.2.2.2.2.2.2.1.2.2.1
  have la0 : g 7 0 13 = g 8 0 4 := hI.2.2.2.2.2.2.2.2
  refine o_aload_n (n := 1) rfl rfl rfl ?_
  refine o_iload_n (n := 2) rfl rfl rfl ?_
  refine o_invi (n := 5) rfl rfl rfl rfl rfl rfl rfl rfl rfl rfl (c7_isStage _) ?_
  refine o_ifb_eq (n := 8) (t := 19) rfl rfl rfl (fun q5 => ?_) (fun q5 => ?_)
  · refine o_bipush (n := 21) rfl rfl ?_
    refine o_iret rfl rfl ?_
    first
      | (exfalso; omega; done)
      | (refine ⟨congrArg (fun z => some (vI z)) ?_, FJ_refl h6⟩
         unfold kpS
         rw [cif_f (by omega)])
      | (refine ⟨congrArg (fun z => some (vI z)) ?_, FJ_refl h6⟩
         unfold kpS
         rw [cif_t (by omega)]
         exact st_e hst (by omega) (by omega) (by omega) (by omega) (by omega) (by omega) (by omega) (by omega))
    
  · refine o_aload_n (n := 9) rfl rfl rfl ?_
    refine o_iload_n (n := 10) rfl rfl rfl ?_
    refine o_iload_n (n := 11) rfl rfl rfl ?_
    refine o_iload (n := 13) rfl rfl rfl ?_
    refine o_invi (n := 16) rfl rfl rfl rfl rfl rfl rfl rfl rfl rfl (c7_isPlace _ _ _) ?_
    refine o_ifb_ne (n := 19) (t := 22) rfl rfl rfl (fun q16 => ?_) (fun q16 => ?_)
    · refine o_aload_n (n := 23) rfl rfl rfl ?_
      refine of_7_3 (n := 26) hS rfl rfl ?_
      refine o_iload_n (n := 27) rfl rfl rfl ?_
      refine o_ra15 (n := 28) hR rfl rfl (by omega) (by omega) (fun hA27 hB27 => ?_)
      refine of_4_0 (n := 31) hS rfl rfl (by omega) (by omega) ?_
      refine o_iload_n (n := 32) rfl rfl rfl ?_
      refine o_iload_n (n := 33) rfl rfl rfl ?_
      refine o_iload (n := 35) rfl rfl rfl ?_
      refine o_invi (n := 38) rfl rfl rfl rfl rfl rfl rfl rfl rfl (ok_0 (by omega) (by omega)) (c0_entryAt hS _ _ _ _ (by omega) (by omega) (by omega) (by omega) (by omega) (by omega) (by omega) (by omega)) ?_
      refine o_iret rfl rfl ?_
      first
        | (exfalso; omega; done)
        | (refine ⟨congrArg (fun z => some (vI z)) ?_, FJ_refl h6⟩
           unfold kpS
           rw [cif_f (by omega)])
        | (refine ⟨congrArg (fun z => some (vI z)) ?_, FJ_refl h6⟩
           unfold kpS
           rw [cif_t (by omega)]
           exact st_e hst (by omega) (by omega) (by omega) (by omega) (by omega) (by omega) (by omega) (by omega))
      
    · refine o_bipush (n := 21) rfl rfl ?_
      refine o_iret rfl rfl ?_
      first
        | (exfalso; omega; done)
        | (refine ⟨congrArg (fun z => some (vI z)) ?_, FJ_refl h6⟩
           unfold kpS
           rw [cif_f (by omega)])
        | (refine ⟨congrArg (fun z => some (vI z)) ?_, FJ_refl h6⟩
           unfold kpS
           rw [cif_t (by omega)]
           exact st_e hst (by omega) (by omega) (by omega) (by omega) (by omega) (by omega) (by omega) (by omega))
      
theorem C7_side (i : Int) (s : Int) (k : Int) : C7 51 [vI i, vI s, vI k] (fun g => vI (sdS g i s k)) := by
  intro c g r hc0 hc1 hI
  have hI' := hI
  obtain ⟨⟨hS, hR, h6, hP⟩, hsg, htx, hru, hwd, hnw, hst, hsh, hla⟩ := hI'
  show Ou 51 0 [vR 7 0, vI i, vI s, vI k] [] g r (fun xx g1 r1 => xx = some (vI (sdS g i s k)) ∧ FJ g r g1 r1)
  obtain ⟨sg1, sg2, sg3⟩ := hI.2.1
  obtain ⟨tx1, tx2, tx3, tx4⟩ := hI.2.2.1
  have ru0 : g 7 0 10 = g 8 0 8 := hI.2.2.2.1.1.1
  have ru1 := hI.2.2.2.1.2.1.1
  have wd0 : g 1 0 1 = g 8 0 14 := hI.2.2.2.2.1.1.1
  have wd1 := hI.2.2.2.2.1.2.1.1
  have wd2 := hI.2.2.2.2.1.2.2
  have nw0 : g 0 0 0 = g 27 0 8 := hI.2.2.2.2.2.1.1.1
  have nw1 : g 0 0 1 = g 28 0 8 := hI.2.2.2.2.2.1.1.2.1
  have nw2 := hI.2.2.2.2.2.1.2.1
  have nw3 := hI.2.2.2.2.2.1.2.2.1
  have st0 := hI.2.2.2.2.2.2.1.1
  have st1 := hI.2.2.2.2.2.2.1.2.1
  have st2 := hI.2.2.2.2.2.2.1.2.2.1
  have la0 : g 7 0 13 = g 8 0 4 := hI.2.2.2.2.2.2.2.2
  refine o_aload_n (n := 1) rfl rfl rfl ?_
  refine o_iload_n (n := 2) rfl rfl rfl ?_
  refine o_invi (n := 5) rfl rfl rfl rfl rfl rfl rfl rfl rfl rfl (c7_isRule _) ?_
  refine o_ifb_eq (n := 8) (t := 26) rfl rfl rfl (fun q5 => ?_) (fun q5 => ?_)
  · refine o_bipush (n := 28) rfl rfl ?_
    refine o_iret rfl rfl ?_
    first
      | (exfalso; omega; done)
      | (refine ⟨congrArg (fun z => some (vI z)) ?_, FJ_refl h6⟩
         unfold sdS
         rw [cif_f (by omega)])
      | (refine ⟨congrArg (fun z => some (vI z)) ?_, FJ_refl h6⟩
         rw [show sdS g i s k = sdu g i s k from cif_t (by omega)]
         unfold sdu
         by_cases z1 : k = -1
         · rw [cif_t (show k < 0 by omega), cif_t z1, hsd.1]
         · rw [cif_f (show ¬ k < 0 by omega), cif_f z1]
           by_cases z2 : k < g 23 0 (2 * i + s)
           · rw [cif_t z2, cif_t (by omega), hsd.2.2 k (by omega) z2]
           · rw [cif_f z2, cif_f (by omega)])
    
  · refine o_iload_n (n := 9) rfl rfl rfl ?_
    refine o_invsi (n := 12) rfl rfl rfl rfl rfl rfl (c7_isSide _) ?_
    refine o_ifb_eq (n := 15) (t := 26) rfl rfl rfl (fun q12 => ?_) (fun q12 => ?_)
    · refine o_bipush (n := 28) rfl rfl ?_
      refine o_iret rfl rfl ?_
      first
        | (exfalso; omega; done)
        | (refine ⟨congrArg (fun z => some (vI z)) ?_, FJ_refl h6⟩
           unfold sdS
           rw [cif_f (by omega)])
        | (refine ⟨congrArg (fun z => some (vI z)) ?_, FJ_refl h6⟩
           rw [show sdS g i s k = sdu g i s k from cif_t (by omega)]
           unfold sdu
           by_cases z1 : k = -1
           · rw [cif_t (show k < 0 by omega), cif_t z1, hsd.1]
           · rw [cif_f (show ¬ k < 0 by omega), cif_f z1]
             by_cases z2 : k < g 23 0 (2 * i + s)
             · rw [cif_t z2, cif_t (by omega), hsd.2.2 k (by omega) z2]
             · rw [cif_f z2, cif_f (by omega)])
      
    · refine o_iload_n (n := 16) rfl rfl rfl ?_
      refine o_iconst (n := 17) rfl rfl ?_
      refine o_icmp_lt (n := 20) (t := 26) rfl rfl rfl (fun q17 => ?_) (fun q17 => ?_)
      · refine o_bipush (n := 28) rfl rfl ?_
        refine o_iret rfl rfl ?_
        first
          | (exfalso; omega; done)
          | (refine ⟨congrArg (fun z => some (vI z)) ?_, FJ_refl h6⟩
             unfold sdS
             rw [cif_f (by omega)])
          | (refine ⟨congrArg (fun z => some (vI z)) ?_, FJ_refl h6⟩
             rw [show sdS g i s k = sdu g i s k from cif_t (by omega)]
             unfold sdu
             by_cases z1 : k = -1
             · rw [cif_t (show k < 0 by omega), cif_t z1, hsd.1]
             · rw [cif_f (show ¬ k < 0 by omega), cif_f z1]
               by_cases z2 : k < g 23 0 (2 * i + s)
               · rw [cif_t z2, cif_t (by omega), hsd.2.2 k (by omega) z2]
               · rw [cif_f z2, cif_f (by omega)])
        
      · refine o_iload_n (n := 21) rfl rfl rfl ?_
        refine o_bipush (n := 23) rfl rfl ?_
        refine o_icmp_lt (n := 26) (t := 29) rfl rfl rfl (fun q23 => ?_) (fun q23 => ?_)
        · refine o_aload_n (n := 30) rfl rfl rfl ?_
          refine of_7_2 (n := 33) hS rfl rfl ?_
          refine o_iload_n (n := 34) rfl rfl rfl ?_
          refine o_ra14 (n := 35) hR rfl rfl (by omega) (by omega) (fun hA34 hB34 => ?_)
          refine o_iload_n (n := 36) rfl rfl rfl ?_
          refine o_invi (n := 39) rfl rfl rfl rfl rfl rfl rfl rfl rfl (ok_2 (by omega) (by omega)) (c2_half hS _ _ hA34 hB34 (by omega)) ?_
          refine o_iload_n (n := 40) rfl rfl rfl ?_
          have hsd := ru_s hru (k := i) (s := s) (by omega) (by omega) (by omega)
          refine o_invi (n := 43) rfl rfl rfl rfl rfl rfl rfl rfl rfl (ok_1 (by omega) (by omega)) (c1_lengthOrSign hS _ _ (by omega) (by omega) (by rw [al10 (by omega)]; omega)) ?_
          refine o_iret rfl rfl ?_
          first
            | (exfalso; omega; done)
            | (refine ⟨congrArg (fun z => some (vI z)) ?_, FJ_refl h6⟩
               unfold sdS
               rw [cif_f (by omega)])
            | (refine ⟨congrArg (fun z => some (vI z)) ?_, FJ_refl h6⟩
               rw [show sdS g i s k = sdu g i s k from cif_t (by omega)]
               unfold sdu
               by_cases z1 : k = -1
               · rw [cif_t (show k < 0 by omega), cif_t z1, hsd.1]
               · rw [cif_f (show ¬ k < 0 by omega), cif_f z1]
                 by_cases z2 : k < g 23 0 (2 * i + s)
                 · rw [cif_t z2, cif_t (by omega), hsd.2.2 k (by omega) z2]
                 · rw [cif_f z2, cif_f (by omega)])
          
        · refine o_bipush (n := 28) rfl rfl ?_
          refine o_iret rfl rfl ?_
          first
            | (exfalso; omega; done)
            | (refine ⟨congrArg (fun z => some (vI z)) ?_, FJ_refl h6⟩
               unfold sdS
               rw [cif_f (by omega)])
            | (refine ⟨congrArg (fun z => some (vI z)) ?_, FJ_refl h6⟩
               rw [show sdS g i s k = sdu g i s k from cif_t (by omega)]
               unfold sdu
               by_cases z1 : k = -1
               · rw [cif_t (show k < 0 by omega), cif_t z1, hsd.1]
               · rw [cif_f (show ¬ k < 0 by omega), cif_f z1]
                 by_cases z2 : k < g 23 0 (2 * i + s)
                 · rw [cif_t z2, cif_t (by omega), hsd.2.2 k (by omega) z2]
                 · rw [cif_f z2, cif_f (by omega)])
          
theorem C7_letter (k : Int) : C7 71 [vI k] (fun g => vI (ltS g k)) := by
  intro c g r hc0 hc1 hI
  have hI' := hI
  obtain ⟨⟨hS, hR, h6, hP⟩, hsg, htx, hru, hwd, hnw, hst, hsh, hla⟩ := hI'
  show Ou 71 0 [vR 7 0, vI k] [] g r (fun xx g1 r1 => xx = some (vI (ltS g k)) ∧ FJ g r g1 r1)
  obtain ⟨sg1, sg2, sg3⟩ := hI.2.1
  obtain ⟨tx1, tx2, tx3, tx4⟩ := hI.2.2.1
  have ru0 : g 7 0 10 = g 8 0 8 := hI.2.2.2.1.1.1
  have ru1 := hI.2.2.2.1.2.1.1
  have wd0 : g 1 0 1 = g 8 0 14 := hI.2.2.2.2.1.1.1
  have wd1 := hI.2.2.2.2.1.2.1.1
  have wd2 := hI.2.2.2.2.1.2.2
  have nw0 : g 0 0 0 = g 27 0 8 := hI.2.2.2.2.2.1.1.1
  have nw1 : g 0 0 1 = g 28 0 8 := hI.2.2.2.2.2.1.1.2.1
  have nw2 := hI.2.2.2.2.2.1.2.1
  have nw3 := hI.2.2.2.2.2.1.2.2.1
  have st0 := hI.2.2.2.2.2.2.1.1
  have st1 := hI.2.2.2.2.2.2.1.2.1
  have st2 := hI.2.2.2.2.2.2.1.2.2.1
  have la0 : g 7 0 13 = g 8 0 4 := hI.2.2.2.2.2.2.2.2
  have wl : ∀ k, 0 ≤ k → k < g 8 0 14 → g 10 0 k = g 25 0 k := hwd.1.2
  have al0 : am_al 10 0 = 24 := rfl
  refine o_iload_n (n := 1) rfl rfl rfl ?_
  refine o_iconst (n := 2) rfl rfl ?_
  refine o_icmp_lt (n := 5) (t := 11) rfl rfl rfl (fun q2 => ?_) (fun q2 => ?_)
  · refine o_bipush (n := 13) rfl rfl ?_
    refine o_iret rfl rfl ?_
    first
      | (exfalso; omega; done)
      | (refine ⟨congrArg (fun z => some (vI z)) ?_, FJ_refl h6⟩
         unfold ltS
         rw [cif_f (by omega)])
      | (refine ⟨congrArg (fun z => some (vI z)) ?_, FJ_refl h6⟩
         rw [show ltS g k = ltu g k from cif_t (by omega)]
         unfold ltu
         by_cases z1 : k = -1
         · rw [cif_t (show k < 0 by omega), cif_t z1, wd0]
         · rw [cif_f (show ¬ k < 0 by omega), cif_f z1]
           by_cases z2 : k < g 8 0 14
           · rw [cif_t z2, cif_t (by omega), wl k (by omega) z2]
           · rw [cif_f z2, cif_f (by omega)])
    
  · refine o_iload_n (n := 6) rfl rfl rfl ?_
    refine o_bipush (n := 8) rfl rfl ?_
    refine o_icmp_lt (n := 11) (t := 14) rfl rfl rfl (fun q8 => ?_) (fun q8 => ?_)
    · refine o_aload_n (n := 15) rfl rfl rfl ?_
      refine of_7_1 (n := 18) hS rfl rfl ?_
      refine o_iload_n (n := 19) rfl rfl rfl ?_
      refine o_invi (n := 22) rfl rfl rfl rfl rfl rfl rfl rfl rfl (ok_1 (by omega) (by omega)) (c1_lengthOrSign hS _ _ (by omega) (by omega) (by omega)) ?_
      refine o_iret rfl rfl ?_
      first
        | (exfalso; omega; done)
        | (refine ⟨congrArg (fun z => some (vI z)) ?_, FJ_refl h6⟩
           unfold ltS
           rw [cif_f (by omega)])
        | (refine ⟨congrArg (fun z => some (vI z)) ?_, FJ_refl h6⟩
           rw [show ltS g k = ltu g k from cif_t (by omega)]
           unfold ltu
           by_cases z1 : k = -1
           · rw [cif_t (show k < 0 by omega), cif_t z1, wd0]
           · rw [cif_f (show ¬ k < 0 by omega), cif_f z1]
             by_cases z2 : k < g 8 0 14
             · rw [cif_t z2, cif_t (by omega), wl k (by omega) z2]
             · rw [cif_f z2, cif_f (by omega)])
      
    · refine o_bipush (n := 13) rfl rfl ?_
      refine o_iret rfl rfl ?_
      first
        | (exfalso; omega; done)
        | (refine ⟨congrArg (fun z => some (vI z)) ?_, FJ_refl h6⟩
           unfold ltS
           rw [cif_f (by omega)])
        | (refine ⟨congrArg (fun z => some (vI z)) ?_, FJ_refl h6⟩
           rw [show ltS g k = ltu g k from cif_t (by omega)]
           unfold ltu
           by_cases z1 : k = -1
           · rw [cif_t (show k < 0 by omega), cif_t z1, wd0]
           · rw [cif_f (show ¬ k < 0 by omega), cif_f z1]
             by_cases z2 : k < g 8 0 14
             · rw [cif_t z2, cif_t (by omega), wl k (by omega) z2]
             · rw [cif_f z2, cif_f (by omega)])
      
theorem C7_sound  : C7 58 [] (fun g => vI (soS g)) := by
  intro c g r hc0 hc1 hI
  have hI' := hI
  obtain ⟨⟨hS, hR, h6, hP⟩, hsg, htx, hru, hwd, hnw, hst, hsh, hla⟩ := hI'
  show Ou 58 0 [vR 7 0] [] g r (fun xx g1 r1 => xx = some (vI (soS g)) ∧ FJ g r g1 r1)
  obtain ⟨sg1, sg2, sg3⟩ := hI.2.1
  obtain ⟨tx1, tx2, tx3, tx4⟩ := hI.2.2.1
  have ru0 : g 7 0 10 = g 8 0 8 := hI.2.2.2.1.1.1
  have ru1 := hI.2.2.2.1.2.1.1
  have wd0 : g 1 0 1 = g 8 0 14 := hI.2.2.2.2.1.1.1
  have wd1 := hI.2.2.2.2.1.2.1.1
  have wd2 := hI.2.2.2.2.1.2.2
  have nw0 : g 0 0 0 = g 27 0 8 := hI.2.2.2.2.2.1.1.1
  have nw1 : g 0 0 1 = g 28 0 8 := hI.2.2.2.2.2.1.1.2.1
  have nw2 := hI.2.2.2.2.2.1.2.1
  have nw3 := hI.2.2.2.2.2.1.2.2.1
  have st0 := hI.2.2.2.2.2.2.1.1
  have st1 := hI.2.2.2.2.2.2.1.2.1
  have st2 := hI.2.2.2.2.2.2.1.2.2.1
  have la0 : g 7 0 13 = g 8 0 4 := hI.2.2.2.2.2.2.2.2
  refine o_aload_n (n := 1) rfl rfl rfl ?_
  refine of_7_5 (n := 4) hS rfl rfl ?_
  refine o_aload_n (n := 5) rfl rfl rfl ?_
  refine o_geti (n := 8) rfl rfl rfl rfl rfl ?_
  rw [← sg3]
  refine o_invi (n := 11) rfl rfl rfl rfl rfl rfl rfl rfl rfl (ok_0 (by omega) (by omega)) (c0_isSound (m := g 8 0 5) hS (by omega) (by omega) (by omega) (by omega) hnw.2 hnw.1) ?_
  refine o_invsi (n := 14) rfl rfl rfl rfl rfl rfl (c7_bit _) ?_
  refine o_iret rfl rfl ?_
  first | (exfalso; omega; done) | exact ⟨rfl, FJ_refl h6⟩
theorem C7_ends  : C7 65 [] (fun g => vI (edS g)) := by
  intro c g r hc0 hc1 hI
  have hI' := hI
  obtain ⟨⟨hS, hR, h6, hP⟩, hsg, htx, hru, hwd, hnw, hst, hsh, hla⟩ := hI'
  show Ou 65 0 [vR 7 0] [] g r (fun xx g1 r1 => xx = some (vI (edS g)) ∧ FJ g r g1 r1)
  obtain ⟨sg1, sg2, sg3⟩ := hI.2.1
  obtain ⟨tx1, tx2, tx3, tx4⟩ := hI.2.2.1
  have ru0 : g 7 0 10 = g 8 0 8 := hI.2.2.2.1.1.1
  have ru1 := hI.2.2.2.1.2.1.1
  have wd0 : g 1 0 1 = g 8 0 14 := hI.2.2.2.2.1.1.1
  have wd1 := hI.2.2.2.2.1.2.1.1
  have wd2 := hI.2.2.2.2.1.2.2
  have nw0 : g 0 0 0 = g 27 0 8 := hI.2.2.2.2.2.1.1.1
  have nw1 : g 0 0 1 = g 28 0 8 := hI.2.2.2.2.2.1.1.2.1
  have nw2 := hI.2.2.2.2.2.1.2.1
  have nw3 := hI.2.2.2.2.2.1.2.2.1
  have st0 := hI.2.2.2.2.2.2.1.1
  have st1 := hI.2.2.2.2.2.2.1.2.1
  have st2 := hI.2.2.2.2.2.2.1.2.2.1
  have la0 : g 7 0 13 = g 8 0 4 := hI.2.2.2.2.2.2.2.2
  refine o_aload_n (n := 1) rfl rfl rfl ?_
  refine o_invi (n := 4) rfl rfl rfl rfl rfl rfl rfl rfl rfl rfl (c7_strictStanding hS hR (by omega) (by omega) (by omega) (by omega)) ?_
  rw [scS_eq hru hst]
  refine o_if_ne (n := 7) (t := 11) rfl rfl rfl (fun q4 => ?_) (fun q4 => ?_)
  · refine o_iconst (n := 12) rfl rfl ?_
    first
      | (have hz : scS g = 0 := by omega
         have hb := c7_bit (g := g) (r := r) (scS g = 0)
         rw [bi_t hz] at hb
         refine o_invsi (n := 15) rfl rfl rfl rfl rfl rfl hb ?_
         refine o_iret rfl rfl ?_
         exact ⟨by unfold edS; rw [bi_t hz], FJ_refl h6⟩)
      | (have hz : ¬ scS g = 0 := by omega
         have hb := c7_bit (g := g) (r := r) (scS g = 0)
         rw [bi_f hz] at hb
         refine o_invsi (n := 15) rfl rfl rfl rfl rfl rfl hb ?_
         refine o_iret rfl rfl ?_
         exact ⟨by unfold edS; rw [bi_f hz], FJ_refl h6⟩)
  · refine o_iconst (n := 8) rfl rfl ?_
    refine o_goto (t := 12) rfl rfl ?_
    first
      | (have hz : scS g = 0 := by omega
         have hb := c7_bit (g := g) (r := r) (scS g = 0)
         rw [bi_t hz] at hb
         refine o_invsi (n := 15) rfl rfl rfl rfl rfl rfl hb ?_
         refine o_iret rfl rfl ?_
         exact ⟨by unfold edS; rw [bi_t hz], FJ_refl h6⟩)
      | (have hz : ¬ scS g = 0 := by omega
         have hb := c7_bit (g := g) (r := r) (scS g = 0)
         rw [bi_f hz] at hb
         refine o_invsi (n := 15) rfl rfl rfl rfl rfl rfl hb ?_
         refine o_iret rfl rfl ?_
         exact ⟨by unfold edS; rw [bi_f hz], FJ_refl h6⟩)
theorem C8_ends  : C8 169 [] (fun g => vI (edS g)) := by
  intro c g r hc0 hc1 hI
  have hI' := hI
  obtain ⟨⟨hS, hR, h6, hP⟩, hsg, htx, hru, hwd, hnw, hst, hsh, hla⟩ := hI'
  show Ou 169 0 [vR 8 0] [] g r (fun xx g1 r1 => xx = some (vI (edS g)) ∧ r1 = r ∧ F8 g g1)
  obtain ⟨sg1, sg2, sg3⟩ := hI.2.1
  obtain ⟨tx1, tx2, tx3, tx4⟩ := hI.2.2.1
  have ru0 : g 7 0 10 = g 8 0 8 := hI.2.2.2.1.1.1
  have ru1 := hI.2.2.2.1.2.1.1
  have wd0 : g 1 0 1 = g 8 0 14 := hI.2.2.2.2.1.1.1
  have wd1 := hI.2.2.2.2.1.2.1.1
  have wd2 := hI.2.2.2.2.1.2.2
  have nw0 : g 0 0 0 = g 27 0 8 := hI.2.2.2.2.2.1.1.1
  have nw1 : g 0 0 1 = g 28 0 8 := hI.2.2.2.2.2.1.1.2.1
  have nw2 := hI.2.2.2.2.2.1.2.1
  have nw3 := hI.2.2.2.2.2.1.2.2.1
  have st0 := hI.2.2.2.2.2.2.1.1
  have st1 := hI.2.2.2.2.2.2.1.2.1
  have st2 := hI.2.2.2.2.2.2.1.2.2.1
  have la0 : g 7 0 13 = g 8 0 4 := hI.2.2.2.2.2.2.2.2
  refine o_aload_n (n := 1) rfl rfl rfl ?_
  refine o_invi (n := 4) rfl rfl rfl rfl rfl rfl rfl rfl rfl rfl (c8_endsNow hS (by omega) (by omega) (by omega) (by omega)) ?_
  refine o_iret rfl rfl ?_
  first | (exfalso; omega; done) | exact ⟨rfl, rfl, F8_refl g⟩
theorem p_ends : Pr 65 169 [] := pr_of C7_ends C8_ends edS_m
