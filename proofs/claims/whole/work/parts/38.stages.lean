/-! stages: like answers of both. Written by wip/gen/gen38.py -/
noncomputable def fsS (g : GI) (k : Int) : Int := cif (FB8 g k (ab (g 8 0 8)) = 0) (-1) (FB8 g k (ab (g 8 0 8)))
noncomputable def sgu (g : GI) (k w : Int) : Int := cif (w = 0) (g 29 0 k) (cif (w = 1) (g 27 0 k) (cif (w = 2) (g 28 0 k) (fsS g k)))
noncomputable def sgS (g : GI) (k w : Int) : Int := cif ((0 ≤ k ∧ k < g 8 0 19) ∧ (0 ≤ w ∧ w ≤ 3)) (sgu g k w) (-2)
theorem FB8_m (d st : Int) : Mf (fun g => FB8 g d st) := fun g h hm => by
  have e : ∀ k, (k = 22 ∨ k = 23 ∨ k = 26 ∨ k = 27 ∨ k = 28) → h k = g k := fun k hk => hm k (Or.inr (by omega)) (by omega) (by omega) (by omega)
  show FB8 h d st = FB8 g d st
  unfold FB8
  rw [E8_m (e 26 (by omega)), L8_c (by rw [e 23 (by omega)]), W8_c (by rw [e 22 (by omega)]), e 27 (by omega), e 28 (by omega), hm 8 (Or.inl rfl) (by decide) (by decide) (by decide)]
theorem sgu_m (k w : Int) : Mf (fun g => sgu g k w) := fun g h hm => by
  have e : ∀ k, (k = 27 ∨ k = 28 ∨ k = 29) → h k = g k := fun k hk => hm k (Or.inr (by omega)) (by omega) (by omega) (by omega)
  have h8 := hm 8 (Or.inl rfl) (by decide) (by decide) (by decide)
  show sgu h k w = sgu g k w
  unfold sgu fsS
  rw [h8, e 27 (by omega), e 28 (by omega), e 29 (by omega), show FB8 h k (ab (g 8 0 8)) = FB8 g k (ab (g 8 0 8)) from FB8_m k _ g h hm]
theorem sgS_m (k w : Int) : Mf (fun g => vI (sgS g k w)) := fun g h hm => by
  show vI (sgS h k w) = vI (sgS g k w)
  unfold sgS
  rw [show sgu h k w = sgu g k w from sgu_m k w g h hm, hm 8 (Or.inl rfl) (by decide) (by decide) (by decide)]
theorem c7_fall8 {c : Int} {g r : GI} (hI : Iv c g g r) {e d st : Int} (he : 0 ≤ e) (he1 : e < 10) (hb : Br (g 27 0 d) (g 28 0 d) (E8 g d)) (hV : Vr7 g e (g 27 0 d) (g 28 0 d) (E8 g d)) : ∃ g1 r1, Rt 102 [vR 7 0, vR 0 e, vI st] g r (some (vI (FB8 g d st))) g1 r1 ∧ FJ g r g1 r1 := by
  obtain ⟨⟨hS, hR, h6, hP⟩, hsg, htx, hru, hwd, hnw, hst, hsh, hla⟩ := hI
  have m1 := hsg.1
  have m2 := hsg.2.1
  have m3 := hsg.2.2
  obtain ⟨v1, g1, r1, hc, hv, f1⟩ := rt_ex (c7_falling (m := g 8 0 5) hS hR h6 he he1 hb hV hru.2.1 hru.1 st (by omega) (by omega) m3.symm)
  subst hv
  exact ⟨g1, r1, hc, f1⟩
theorem c8_fall8 {c : Int} {g r : GI} (hI : Iv c g g r) {d st : Int} (hd : 0 ≤ d) (hd1 : d < 9) (hb : Br (g 27 0 d) (g 28 0 d) (E8 g d)) : ∃ g1, Rt 141 [vR 8 0, vI d, vI st] g r (some (vI (FB8 g d st))) g1 r ∧ F8 g g1 := by
  obtain ⟨⟨hS, hR, h6, hP⟩, hsg, htx, hru, hwd, hnw, hst, hsh, hla⟩ := hI
  have m1 := hsg.1
  have m2 := hsg.2.1
  have m3 := hsg.2.2
  have m4 := hru.2.1.1
  obtain ⟨v1, g1, r1, hc, hv, hr, f1⟩ := rt_ex (c8_falling (m := g 8 0 5) hS hd hd1 hb (Vr8_E d) hru.2.1 (Vu8_E m4.1) st (by omega) (by omega) rfl)
  subst hv
  subst hr
  exact ⟨g1, hc, f1⟩
theorem C7_stages (k : Int) (w : Int) : C7 62 [vI k, vI w] (fun g => vI (sgS g k w)) := by
  intro c g r hc0 hc1 hI
  have hI' := hI
  obtain ⟨⟨hS, hR, h6, hP⟩, hsg, htx, hru, hwd, hnw, hst, hsh, hla⟩ := hI'
  show Ou 62 0 [vR 7 0, vI k, vI w, vN] [] g r (fun xx g1 r1 => xx = some (vI (sgS g k w)) ∧ FJ g r g1 r1)
  obtain ⟨sg1, sg2, sg3⟩ := hI.2.1
  obtain ⟨tx1, tx2, tx3, tx4⟩ := hI.2.2.1
  have ru0 : g 7 0 10 = g 8 0 8 := hI.2.2.2.1.1.1
  have ru1 := hI.2.2.2.1.2.1.1
  have wd0 : g 1 0 1 = g 8 0 14 := hI.2.2.2.2.1.1.1
  have wd1 := hI.2.2.2.2.1.2.1.1
  have wd2 := hI.2.2.2.2.1.2.2
  have nw0 : g 0 0 0 = g 27 0 8 := hI.2.2.2.2.2.1.1.1
  have nw1 : g 0 0 1 = g 28 0 8 := hI.2.2.2.2.2.1.1.2.1
  have nw2 := hI.2.2.2.2.2.1.2.1
  have nw3 := hI.2.2.2.2.2.1.2.2.1
  have st0 := hI.2.2.2.2.2.2.1.1
  have st1 := hI.2.2.2.2.2.2.1.2.1
  have st2 := hI.2.2.2.2.2.2.1.2.2.1
  have la0 : g 7 0 13 = g 8 0 4 := hI.2.2.2.2.2.2.2.2
  refine o_aload_n (n := 1) rfl rfl rfl ?_
  refine o_iload_n (n := 2) rfl rfl rfl ?_
  refine o_invi (n := 5) rfl rfl rfl rfl rfl rfl rfl rfl rfl rfl (c7_isStage _) ?_
  refine o_ifb_ne (n := 8) (t := 11) rfl rfl rfl (fun q5 => ?_) (fun q5 => ?_)
  · refine o_iload_n (n := 12) rfl rfl rfl ?_
    refine o_tabC (td := 108) rfl rfl (fun q12 => ?_) (fun j hj q12 => ?_)
    · refine o_bipush (n := 110) rfl rfl ?_
      refine o_iret rfl rfl ?_
      first
        | (exfalso; omega; done)
        | (have hf := f1
           have hw : w = 3 := by omega
           refine ⟨congrArg (fun z => some (vI z)) ?_, hf⟩
           rw [show sgS g k w = sgu g k w from cif_t (by omega)]
           unfold sgu fsS
           rw [cif_f (by omega), cif_f (by omega), cif_f (by omega)]
           first | rw [cif_t (by assumption)] | rw [cif_f (by assumption)])
        | (have hw : w = 0 := by omega
           have hsk := hst.2.2.2 k (by omega) (by omega)
           refine ⟨congrArg (fun z => some (vI z)) ?_, FJ_refl h6⟩
           rw [show sgS g k w = sgu g k w from cif_t (by omega)]
           unfold sgu
           rw [cif_t hw]
           exact hsk.1)
        | (have hw : w = 1 := by omega
           have hsk := hst.2.2.2 k (by omega) (by omega)
           refine ⟨congrArg (fun z => some (vI z)) ?_, FJ_refl h6⟩
           rw [show sgS g k w = sgu g k w from cif_t (by omega)]
           unfold sgu
           rw [cif_f (by omega), cif_t hw]
           exact hsk.2.1.1)
        | (have hw : w = 2 := by omega
           have hsk := hst.2.2.2 k (by omega) (by omega)
           refine ⟨congrArg (fun z => some (vI z)) ?_, FJ_refl h6⟩
           rw [show sgS g k w = sgu g k w from cif_t (by omega)]
           unfold sgu
           rw [cif_f (by omega), cif_f (by omega), cif_t hw]
           exact hsk.2.1.2.1)
        | (refine ⟨congrArg (fun z => some (vI z)) ?_, FJ_refl h6⟩
           unfold sgS
           rw [cif_f (by omega)])
    · rcases (show j = 0 ∨ j = 1 ∨ j = 2 ∨ j = 3 by omega) with ej | ej | ej | ej <;> subst ej
      · change Ou _ 44 _ _ _ _ _
        refine o_aload_n (n := 45) rfl rfl rfl ?_
        refine of_7_3 (n := 48) hS rfl rfl ?_
        refine o_iload_n (n := 49) rfl rfl rfl ?_
        refine o_ra15 (n := 50) hR rfl rfl (by omega) (by omega) (fun hA49 hB49 => ?_)
        refine o_geti (n := 53) rfl rfl rfl (ok_4 (by omega) (by omega)) rfl ?_
        refine o_iret rfl rfl ?_
        first
          | (exfalso; omega; done)
          | (have hf := f1
             have hw : w = 3 := by omega
             refine ⟨congrArg (fun z => some (vI z)) ?_, hf⟩
             rw [show sgS g k w = sgu g k w from cif_t (by omega)]
             unfold sgu fsS
             rw [cif_f (by omega), cif_f (by omega), cif_f (by omega)]
             first | rw [cif_t (by assumption)] | rw [cif_f (by assumption)])
          | (have hw : w = 0 := by omega
             have hsk := hst.2.2.2 k (by omega) (by omega)
             refine ⟨congrArg (fun z => some (vI z)) ?_, FJ_refl h6⟩
             rw [show sgS g k w = sgu g k w from cif_t (by omega)]
             unfold sgu
             rw [cif_t hw]
             exact hsk.1)
          | (have hw : w = 1 := by omega
             have hsk := hst.2.2.2 k (by omega) (by omega)
             refine ⟨congrArg (fun z => some (vI z)) ?_, FJ_refl h6⟩
             rw [show sgS g k w = sgu g k w from cif_t (by omega)]
             unfold sgu
             rw [cif_f (by omega), cif_t hw]
             exact hsk.2.1.1)
          | (have hw : w = 2 := by omega
             have hsk := hst.2.2.2 k (by omega) (by omega)
             refine ⟨congrArg (fun z => some (vI z)) ?_, FJ_refl h6⟩
             rw [show sgS g k w = sgu g k w from cif_t (by omega)]
             unfold sgu
             rw [cif_f (by omega), cif_f (by omega), cif_t hw]
             exact hsk.2.1.2.1)
          | (refine ⟨congrArg (fun z => some (vI z)) ?_, FJ_refl h6⟩
             unfold sgS
             rw [cif_f (by omega)])
      · change Ou _ 54 _ _ _ _ _
        refine o_aload_n (n := 55) rfl rfl rfl ?_
        refine of_7_3 (n := 58) hS rfl rfl ?_
        refine o_iload_n (n := 59) rfl rfl rfl ?_
        refine o_ra15 (n := 60) hR rfl rfl (by omega) (by omega) (fun hA59 hB59 => ?_)
        refine of_4_0 (n := 63) hS rfl rfl (by omega) (by omega) ?_
        refine o_geti (n := 66) rfl rfl rfl (ok_0 (by omega) (by omega)) rfl ?_
        refine o_iret rfl rfl ?_
        first
          | (exfalso; omega; done)
          | (have hf := f1
             have hw : w = 3 := by omega
             refine ⟨congrArg (fun z => some (vI z)) ?_, hf⟩
             rw [show sgS g k w = sgu g k w from cif_t (by omega)]
             unfold sgu fsS
             rw [cif_f (by omega), cif_f (by omega), cif_f (by omega)]
             first | rw [cif_t (by assumption)] | rw [cif_f (by assumption)])
          | (have hw : w = 0 := by omega
             have hsk := hst.2.2.2 k (by omega) (by omega)
             refine ⟨congrArg (fun z => some (vI z)) ?_, FJ_refl h6⟩
             rw [show sgS g k w = sgu g k w from cif_t (by omega)]
             unfold sgu
             rw [cif_t hw]
             exact hsk.1)
          | (have hw : w = 1 := by omega
             have hsk := hst.2.2.2 k (by omega) (by omega)
             refine ⟨congrArg (fun z => some (vI z)) ?_, FJ_refl h6⟩
             rw [show sgS g k w = sgu g k w from cif_t (by omega)]
             unfold sgu
             rw [cif_f (by omega), cif_t hw]
             exact hsk.2.1.1)
          | (have hw : w = 2 := by omega
             have hsk := hst.2.2.2 k (by omega) (by omega)
             refine ⟨congrArg (fun z => some (vI z)) ?_, FJ_refl h6⟩
             rw [show sgS g k w = sgu g k w from cif_t (by omega)]
             unfold sgu
             rw [cif_f (by omega), cif_f (by omega), cif_t hw]
             exact hsk.2.1.2.1)
          | (refine ⟨congrArg (fun z => some (vI z)) ?_, FJ_refl h6⟩
             unfold sgS
             rw [cif_f (by omega)])
      · change Ou _ 67 _ _ _ _ _
        refine o_aload_n (n := 68) rfl rfl rfl ?_
        refine of_7_3 (n := 71) hS rfl rfl ?_
        refine o_iload_n (n := 72) rfl rfl rfl ?_
        refine o_ra15 (n := 73) hR rfl rfl (by omega) (by omega) (fun hA72 hB72 => ?_)
        refine of_4_0 (n := 76) hS rfl rfl (by omega) (by omega) ?_
        refine o_geti (n := 79) rfl rfl rfl (ok_0 (by omega) (by omega)) rfl ?_
        refine o_iret rfl rfl ?_
        first
          | (exfalso; omega; done)
          | (have hf := f1
             have hw : w = 3 := by omega
             refine ⟨congrArg (fun z => some (vI z)) ?_, hf⟩
             rw [show sgS g k w = sgu g k w from cif_t (by omega)]
             unfold sgu fsS
             rw [cif_f (by omega), cif_f (by omega), cif_f (by omega)]
             first | rw [cif_t (by assumption)] | rw [cif_f (by assumption)])
          | (have hw : w = 0 := by omega
             have hsk := hst.2.2.2 k (by omega) (by omega)
             refine ⟨congrArg (fun z => some (vI z)) ?_, FJ_refl h6⟩
             rw [show sgS g k w = sgu g k w from cif_t (by omega)]
             unfold sgu
             rw [cif_t hw]
             exact hsk.1)
          | (have hw : w = 1 := by omega
             have hsk := hst.2.2.2 k (by omega) (by omega)
             refine ⟨congrArg (fun z => some (vI z)) ?_, FJ_refl h6⟩
             rw [show sgS g k w = sgu g k w from cif_t (by omega)]
             unfold sgu
             rw [cif_f (by omega), cif_t hw]
             exact hsk.2.1.1)
          | (have hw : w = 2 := by omega
             have hsk := hst.2.2.2 k (by omega) (by omega)
             refine ⟨congrArg (fun z => some (vI z)) ?_, FJ_refl h6⟩
             rw [show sgS g k w = sgu g k w from cif_t (by omega)]
             unfold sgu
             rw [cif_f (by omega), cif_f (by omega), cif_t hw]
             exact hsk.2.1.2.1)
          | (refine ⟨congrArg (fun z => some (vI z)) ?_, FJ_refl h6⟩
             unfold sgS
             rw [cif_f (by omega)])
      · change Ou _ 80 _ _ _ _ _
        refine o_aload_n (n := 81) rfl rfl rfl ?_
        refine o_aload_n (n := 82) rfl rfl rfl ?_
        refine of_7_3 (n := 85) hS rfl rfl ?_
        refine o_iload_n (n := 86) rfl rfl rfl ?_
        refine o_ra15 (n := 87) hR rfl rfl (by omega) (by omega) (fun hA86 hB86 => ?_)
        refine of_4_0 (n := 90) hS rfl rfl (by omega) (by omega) ?_
        refine o_aload_n (n := 91) rfl rfl rfl ?_
        refine o_invi (n := 94) rfl rfl rfl rfl rfl rfl rfl rfl rfl rfl (c7_allBits (by omega) (by omega)) ?_
        rw [ru0]
        have hsk := hst.2.2.2 k (by omega) (by omega)
        obtain ⟨g1, r1, hc, f1⟩ := c7_fall8 hI (e := 2 + r 15 0 k) (d := k) (st := ab (g 8 0 8)) (by omega) (by omega) hsk.2.2.1 hsk.2.1
        refine o_invi (n := 97) rfl rfl rfl rfl rfl rfl rfl rfl rfl rfl (hc) ?_
        refine o_istore_3 (n := 98) rfl rfl rfl ?_
        refine o_iload_n (n := 99) rfl rfl rfl ?_
        refine o_if_ne (n := 102) (t := 106) rfl rfl rfl (fun q99 => ?_) (fun q99 => ?_)
        · refine o_iload_n (n := 107) rfl rfl rfl ?_
          refine o_iret rfl rfl ?_
          first
            | (exfalso; omega; done)
            | (have hf := f1
               have hw : w = 3 := by omega
               refine ⟨congrArg (fun z => some (vI z)) ?_, hf⟩
               rw [show sgS g k w = sgu g k w from cif_t (by omega)]
               unfold sgu fsS
               rw [cif_f (by omega), cif_f (by omega), cif_f (by omega)]
               first | rw [cif_t (by assumption)] | rw [cif_f (by assumption)])
            | (have hw : w = 0 := by omega
               have hsk := hst.2.2.2 k (by omega) (by omega)
               refine ⟨congrArg (fun z => some (vI z)) ?_, FJ_refl h6⟩
               rw [show sgS g k w = sgu g k w from cif_t (by omega)]
               unfold sgu
               rw [cif_t hw]
               exact hsk.1)
            | (have hw : w = 1 := by omega
               have hsk := hst.2.2.2 k (by omega) (by omega)
               refine ⟨congrArg (fun z => some (vI z)) ?_, FJ_refl h6⟩
               rw [show sgS g k w = sgu g k w from cif_t (by omega)]
               unfold sgu
               rw [cif_f (by omega), cif_t hw]
               exact hsk.2.1.1)
            | (have hw : w = 2 := by omega
               have hsk := hst.2.2.2 k (by omega) (by omega)
               refine ⟨congrArg (fun z => some (vI z)) ?_, FJ_refl h6⟩
               rw [show sgS g k w = sgu g k w from cif_t (by omega)]
               unfold sgu
               rw [cif_f (by omega), cif_f (by omega), cif_t hw]
               exact hsk.2.1.2.1)
            | (refine ⟨congrArg (fun z => some (vI z)) ?_, FJ_refl h6⟩
               unfold sgS
               rw [cif_f (by omega)])
        · refine o_iconst (n := 103) rfl rfl ?_
          refine o_goto (t := 107) rfl rfl ?_
          refine o_iret rfl rfl ?_
          first
            | (exfalso; omega; done)
            | (have hf := f1
               have hw : w = 3 := by omega
               refine ⟨congrArg (fun z => some (vI z)) ?_, hf⟩
               rw [show sgS g k w = sgu g k w from cif_t (by omega)]
               unfold sgu fsS
               rw [cif_f (by omega), cif_f (by omega), cif_f (by omega)]
               first | rw [cif_t (by assumption)] | rw [cif_f (by assumption)])
            | (have hw : w = 0 := by omega
               have hsk := hst.2.2.2 k (by omega) (by omega)
               refine ⟨congrArg (fun z => some (vI z)) ?_, FJ_refl h6⟩
               rw [show sgS g k w = sgu g k w from cif_t (by omega)]
               unfold sgu
               rw [cif_t hw]
               exact hsk.1)
            | (have hw : w = 1 := by omega
               have hsk := hst.2.2.2 k (by omega) (by omega)
               refine ⟨congrArg (fun z => some (vI z)) ?_, FJ_refl h6⟩
               rw [show sgS g k w = sgu g k w from cif_t (by omega)]
               unfold sgu
               rw [cif_f (by omega), cif_t hw]
               exact hsk.2.1.1)
            | (have hw : w = 2 := by omega
               have hsk := hst.2.2.2 k (by omega) (by omega)
               refine ⟨congrArg (fun z => some (vI z)) ?_, FJ_refl h6⟩
               rw [show sgS g k w = sgu g k w from cif_t (by omega)]
               unfold sgu
               rw [cif_f (by omega), cif_f (by omega), cif_t hw]
               exact hsk.2.1.2.1)
            | (refine ⟨congrArg (fun z => some (vI z)) ?_, FJ_refl h6⟩
               unfold sgS
               rw [cif_f (by omega)])
  · refine o_bipush (n := 10) rfl rfl ?_
    refine o_iret rfl rfl ?_
    first
      | (exfalso; omega; done)
      | (have hf := f1
         have hw : w = 3 := by omega
         refine ⟨congrArg (fun z => some (vI z)) ?_, hf⟩
         rw [show sgS g k w = sgu g k w from cif_t (by omega)]
         unfold sgu fsS
         rw [cif_f (by omega), cif_f (by omega), cif_f (by omega)]
         first | rw [cif_t (by assumption)] | rw [cif_f (by assumption)])
      | (have hw : w = 0 := by omega
         have hsk := hst.2.2.2 k (by omega) (by omega)
         refine ⟨congrArg (fun z => some (vI z)) ?_, FJ_refl h6⟩
         rw [show sgS g k w = sgu g k w from cif_t (by omega)]
         unfold sgu
         rw [cif_t hw]
         exact hsk.1)
      | (have hw : w = 1 := by omega
         have hsk := hst.2.2.2 k (by omega) (by omega)
         refine ⟨congrArg (fun z => some (vI z)) ?_, FJ_refl h6⟩
         rw [show sgS g k w = sgu g k w from cif_t (by omega)]
         unfold sgu
         rw [cif_f (by omega), cif_t hw]
         exact hsk.2.1.1)
      | (have hw : w = 2 := by omega
         have hsk := hst.2.2.2 k (by omega) (by omega)
         refine ⟨congrArg (fun z => some (vI z)) ?_, FJ_refl h6⟩
         rw [show sgS g k w = sgu g k w from cif_t (by omega)]
         unfold sgu
         rw [cif_f (by omega), cif_f (by omega), cif_t hw]
         exact hsk.2.1.2.1)
      | (refine ⟨congrArg (fun z => some (vI z)) ?_, FJ_refl h6⟩
         unfold sgS
         rw [cif_f (by omega)])
theorem c8_firstOf {c : Int} {g r : GI} (hI : Iv c g g r) {k : Int} (k0 : 0 ≤ k) (k1 : k < g 8 0 19) : Ou 162 0 (am_ini 162 [vR 8 0, vI k]) [] g r (fun v g1 r1 => v = some (vI (fsS g k)) ∧ r1 = r ∧ F8 g g1) := by
  show Ou 162 0 [vR 8 0, vI k, vN] [] g r _
  obtain ⟨⟨hS, hR, h6, hP⟩, hsg, htx, hru, hwd, hnw, hst, hsh, hla⟩ := id hI
  obtain ⟨sg1, sg2, sg3⟩ := hI.2.1
  obtain ⟨tx1, tx2, tx3, tx4⟩ := hI.2.2.1
  have ru0 : g 7 0 10 = g 8 0 8 := hI.2.2.2.1.1.1
  have ru1 := hI.2.2.2.1.2.1.1
  have wd0 : g 1 0 1 = g 8 0 14 := hI.2.2.2.2.1.1.1
  have wd1 := hI.2.2.2.2.1.2.1.1
  have wd2 := hI.2.2.2.2.1.2.2
  have nw0 : g 0 0 0 = g 27 0 8 := hI.2.2.2.2.2.1.1.1
  have nw1 : g 0 0 1 = g 28 0 8 := hI.2.2.2.2.2.1.1.2.1
  have nw2 := hI.2.2.2.2.2.1.2.1
  have nw3 := hI.2.2.2.2.2.1.2.2.1
  have st0 := hI.2.2.2.2.2.2.1.1
  have st1 := hI.2.2.2.2.2.2.1.2.1
  have st2 := hI.2.2.2.2.2.2.1.2.2.1
  have la0 : g 7 0 13 = g 8 0 4 := hI.2.2.2.2.2.2.2.2
  refine o_aload_n (n := 1) rfl rfl rfl ?_
  refine o_iload_n (n := 2) rfl rfl rfl ?_
  refine o_aload_n (n := 3) rfl rfl rfl ?_
  refine o_invi (n := 6) rfl rfl rfl rfl rfl rfl rfl rfl rfl rfl (c8_allRules (by omega) (by omega)) ?_
  obtain ⟨g1, hc, f1⟩ := c8_fall8 hI (d := k) (st := ab (g 8 0 8)) k0 (by omega) (hst.2.2.2 k k0 k1).2.2.1
  refine o_invi (n := 9) rfl rfl rfl rfl rfl rfl rfl rfl rfl rfl (hc) ?_
  refine o_istore_2 (n := 10) rfl rfl rfl ?_
  refine o_iload_n (n := 11) rfl rfl rfl ?_
  refine o_if_ne (n := 14) (t := 18) rfl rfl rfl (fun k11 => ?_) (fun k11 => ?_)
  · refine o_iload_n (n := 19) rfl rfl rfl ?_
    refine o_iret rfl rfl ?_
    refine ⟨congrArg (fun z => some (vI z)) ?_, rfl, f1⟩
    unfold fsS
    first | rw [cif_t (by assumption)] | rw [cif_f (by assumption)]
  · refine o_iconst (n := 15) rfl rfl ?_
    refine o_goto (t := 19) rfl rfl ?_
    refine o_iret rfl rfl ?_
    refine ⟨congrArg (fun z => some (vI z)) ?_, rfl, f1⟩
    unfold fsS
    first | rw [cif_t (by assumption)] | rw [cif_f (by assumption)]
theorem c8_stagesBy {c : Int} {g r : GI} (hI : Iv c g g r) {k w : Int} (k0 : 0 ≤ k) (k1 : k < g 8 0 19) (w0 : 0 ≤ w) (w1 : w ≤ 3) : Ou 163 0 (am_ini 163 [vR 8 0, vI k, vI w]) [] g r (fun v g1 r1 => v = some (vI (sgu g k w)) ∧ r1 = r ∧ F8 g g1) := by
  show Ou 163 0 [vR 8 0, vI k, vI w] [] g r _
  obtain ⟨⟨hS, hR, h6, hP⟩, hsg, htx, hru, hwd, hnw, hst, hsh, hla⟩ := id hI
  obtain ⟨sg1, sg2, sg3⟩ := hI.2.1
  obtain ⟨tx1, tx2, tx3, tx4⟩ := hI.2.2.1
  have ru0 : g 7 0 10 = g 8 0 8 := hI.2.2.2.1.1.1
  have ru1 := hI.2.2.2.1.2.1.1
  have wd0 : g 1 0 1 = g 8 0 14 := hI.2.2.2.2.1.1.1
  have wd1 := hI.2.2.2.2.1.2.1.1
  have wd2 := hI.2.2.2.2.1.2.2
  have nw0 : g 0 0 0 = g 27 0 8 := hI.2.2.2.2.2.1.1.1
  have nw1 : g 0 0 1 = g 28 0 8 := hI.2.2.2.2.2.1.1.2.1
  have nw2 := hI.2.2.2.2.2.1.2.1
  have nw3 := hI.2.2.2.2.2.1.2.2.1
  have st0 := hI.2.2.2.2.2.2.1.1
  have st1 := hI.2.2.2.2.2.2.1.2.1
  have st2 := hI.2.2.2.2.2.2.1.2.2.1
  have la0 : g 7 0 13 = g 8 0 4 := hI.2.2.2.2.2.2.2.2
  refine o_iload_n (n := 1) rfl rfl rfl ?_
  refine o_if_ne (n := 4) (t := 13) rfl rfl rfl (fun z1 => ?_) (fun z1 => ?_)
  · refine o_iload_n (n := 14) rfl rfl rfl ?_
    refine o_iconst (n := 15) rfl rfl ?_
    refine o_icmp_ne (n := 18) (t := 27) rfl rfl rfl (fun z15 => ?_) (fun z15 => ?_)
    · refine o_iload_n (n := 28) rfl rfl rfl ?_
      refine o_iconst (n := 29) rfl rfl ?_
      refine o_icmp_ne (n := 32) (t := 41) rfl rfl rfl (fun z29 => ?_) (fun z29 => ?_)
      · refine o_aload_n (n := 42) rfl rfl rfl ?_
        refine o_iload_n (n := 43) rfl rfl rfl ?_
        obtain ⟨v1, g1, r1, hc, hv, hr, f1⟩ := rt_ex (c8_firstOf hI k0 k1)
        subst hv
        subst hr
        refine o_invi (n := 46) rfl rfl rfl rfl rfl rfl rfl rfl rfl rfl (hc) ?_
        refine o_iret rfl rfl ?_
        first
          | (exfalso; omega; done)
          | (have hf := f1
             refine ⟨congrArg (fun z => some (vI z)) ?_, rfl, hf⟩
             unfold sgu
             rw [cif_f (by omega), cif_f (by omega), cif_f (by omega)])
          | (refine ⟨congrArg (fun z => some (vI z)) ?_, rfl, F8_refl g⟩
             unfold sgu
             first | rw [cif_t (by omega)] | rw [cif_f (by omega), cif_t (by omega)] | rw [cif_f (by omega), cif_f (by omega), cif_t (by omega)])
      · refine o_aload_n (n := 33) rfl rfl rfl ?_
        refine of_8_18 (n := 36) hS rfl rfl ?_
        refine o_iload_n (n := 37) rfl rfl rfl ?_
        refine o_iald (n := 38) (L := 9) rfl rfl rfl rfl rfl (by omega) (by omega) ?_
        refine o_goto (t := 46) rfl rfl ?_
        refine o_iret rfl rfl ?_
        first
          | (exfalso; omega; done)
          | (have hf := f1
             refine ⟨congrArg (fun z => some (vI z)) ?_, rfl, hf⟩
             unfold sgu
             rw [cif_f (by omega), cif_f (by omega), cif_f (by omega)])
          | (refine ⟨congrArg (fun z => some (vI z)) ?_, rfl, F8_refl g⟩
             unfold sgu
             first | rw [cif_t (by omega)] | rw [cif_f (by omega), cif_t (by omega)] | rw [cif_f (by omega), cif_f (by omega), cif_t (by omega)])
    · refine o_aload_n (n := 19) rfl rfl rfl ?_
      refine of_8_17 (n := 22) hS rfl rfl ?_
      refine o_iload_n (n := 23) rfl rfl rfl ?_
      refine o_iald (n := 24) (L := 9) rfl rfl rfl rfl rfl (by omega) (by omega) ?_
      refine o_goto (t := 46) rfl rfl ?_
      refine o_iret rfl rfl ?_
      first
        | (exfalso; omega; done)
        | (have hf := f1
           refine ⟨congrArg (fun z => some (vI z)) ?_, rfl, hf⟩
           unfold sgu
           rw [cif_f (by omega), cif_f (by omega), cif_f (by omega)])
        | (refine ⟨congrArg (fun z => some (vI z)) ?_, rfl, F8_refl g⟩
           unfold sgu
           first | rw [cif_t (by omega)] | rw [cif_f (by omega), cif_t (by omega)] | rw [cif_f (by omega), cif_f (by omega), cif_t (by omega)])
  · refine o_aload_n (n := 5) rfl rfl rfl ?_
    refine of_8_20 (n := 8) hS rfl rfl ?_
    refine o_iload_n (n := 9) rfl rfl rfl ?_
    refine o_iald (n := 10) (L := 8) rfl rfl rfl rfl rfl (by omega) (by omega) ?_
    refine o_goto (t := 46) rfl rfl ?_
    refine o_iret rfl rfl ?_
    first
      | (exfalso; omega; done)
      | (have hf := f1
         refine ⟨congrArg (fun z => some (vI z)) ?_, rfl, hf⟩
         unfold sgu
         rw [cif_f (by omega), cif_f (by omega), cif_f (by omega)])
      | (refine ⟨congrArg (fun z => some (vI z)) ?_, rfl, F8_refl g⟩
         unfold sgu
         first | rw [cif_t (by omega)] | rw [cif_f (by omega), cif_t (by omega)] | rw [cif_f (by omega), cif_f (by omega), cif_t (by omega)])
theorem C8_stages (k : Int) (w : Int) : C8 164 [vI k, vI w] (fun g => vI (sgS g k w)) := by
  intro c g r hc0 hc1 hI
  have hI' := hI
  obtain ⟨⟨hS, hR, h6, hP⟩, hsg, htx, hru, hwd, hnw, hst, hsh, hla⟩ := hI'
  show Ou 164 0 [vR 8 0, vI k, vI w] [] g r (fun xx g1 r1 => xx = some (vI (sgS g k w)) ∧ r1 = r ∧ F8 g g1)
  obtain ⟨sg1, sg2, sg3⟩ := hI.2.1
  obtain ⟨tx1, tx2, tx3, tx4⟩ := hI.2.2.1
  have ru0 : g 7 0 10 = g 8 0 8 := hI.2.2.2.1.1.1
  have ru1 := hI.2.2.2.1.2.1.1
  have wd0 : g 1 0 1 = g 8 0 14 := hI.2.2.2.2.1.1.1
  have wd1 := hI.2.2.2.2.1.2.1.1
  have wd2 := hI.2.2.2.2.1.2.2
  have nw0 : g 0 0 0 = g 27 0 8 := hI.2.2.2.2.2.1.1.1
  have nw1 : g 0 0 1 = g 28 0 8 := hI.2.2.2.2.2.1.1.2.1
  have nw2 := hI.2.2.2.2.2.1.2.1
  have nw3 := hI.2.2.2.2.2.1.2.2.1
  have st0 := hI.2.2.2.2.2.2.1.1
  have st1 := hI.2.2.2.2.2.2.1.2.1
  have st2 := hI.2.2.2.2.2.2.1.2.2.1
  have la0 : g 7 0 13 = g 8 0 4 := hI.2.2.2.2.2.2.2.2
  refine o_aload_n (n := 1) rfl rfl rfl ?_
  refine o_iload_n (n := 2) rfl rfl rfl ?_
  refine o_invi (n := 5) rfl rfl rfl rfl rfl rfl rfl rfl rfl rfl (c8_isStage _ (by omega) (by omega)) ?_
  refine o_ifb_eq (n := 8) (t := 29) rfl rfl rfl (fun k5 => ?_) (fun k5 => ?_)
  · refine o_bipush (n := 31) rfl rfl ?_
    refine o_iret rfl rfl ?_
    first
      | (exfalso; omega; done)
      | (have hf := f1
         refine ⟨congrArg (fun z => some (vI z)) ?_, rfl, hf⟩
         unfold sgS
         rw [cif_t (by omega)])
      | (refine ⟨congrArg (fun z => some (vI z)) ?_, rfl, F8_refl g⟩
         unfold sgS
         rw [cif_f (by omega)])
  · refine o_iload_n (n := 9) rfl rfl rfl ?_
    refine o_i2l (n := 10) rfl rfl ?_
    refine o_lconst (n := 11) rfl rfl ?_
    refine o_ldc2_w (n := 14) rfl rfl ?_
    refine o_invsi (n := 17) rfl rfl rfl rfl rfl rfl (c8_in _ _ _) ?_
    refine o_ifb_eq (n := 20) (t := 29) rfl rfl rfl (fun k17 => ?_) (fun k17 => ?_)
    · refine o_bipush (n := 31) rfl rfl ?_
      refine o_iret rfl rfl ?_
      first
        | (exfalso; omega; done)
        | (have hf := f1
           refine ⟨congrArg (fun z => some (vI z)) ?_, rfl, hf⟩
           unfold sgS
           rw [cif_t (by omega)])
        | (refine ⟨congrArg (fun z => some (vI z)) ?_, rfl, F8_refl g⟩
           unfold sgS
           rw [cif_f (by omega)])
    · refine o_aload_n (n := 21) rfl rfl rfl ?_
      refine o_iload_n (n := 22) rfl rfl rfl ?_
      refine o_iload_n (n := 23) rfl rfl rfl ?_
      obtain ⟨v1, g1, r1, hc, hv, hr, f1⟩ := rt_ex (c8_stagesBy hI (k := k) (w := w) (by omega) (by omega) (by omega) (by omega))
      subst hv
      subst hr
      refine o_invi (n := 26) rfl rfl rfl rfl rfl rfl rfl rfl rfl rfl (hc) ?_
      refine o_goto (t := 31) rfl rfl ?_
      refine o_iret rfl rfl ?_
      first
        | (exfalso; omega; done)
        | (have hf := f1
           refine ⟨congrArg (fun z => some (vI z)) ?_, rfl, hf⟩
           unfold sgS
           rw [cif_t (by omega)])
        | (refine ⟨congrArg (fun z => some (vI z)) ?_, rfl, F8_refl g⟩
           unfold sgS
           rw [cif_f (by omega)])
theorem p_stages (k w : Int) : Pr 62 164 [vI k, vI w] := pr_of (C7_stages k w) (C8_stages k w) (sgS_m k w)
