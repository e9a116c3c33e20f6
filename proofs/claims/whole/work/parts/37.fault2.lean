/-! fault: like answers of both. Written by wip/gen/gen37.py -/
noncomputable def frS (g : GI) : Int := fr g 21 (g 8 0 5) (g 8 0 7).toNat 0 0 0
noncomputable def fwS (g : GI) : Int := fi (g 8 0 7).toNat 0 (nl g 21 (g 8 0 5)) (-1)
noncomputable def ftS (g : GI) (a : Int) : Int := cif (a = 0) (frS g) (cif (a = 1) (fwS g) (-2))
theorem frS_m : Mf frS := fun g h hm => by
  have h8 := hm 8 (Or.inl rfl) (by decide) (by decide) (by decide)
  have h21 := hm 21 (Or.inr (by decide)) (by decide) (by decide) (by decide)
  unfold frS
  rw [h8]
  exact fr_congr (fun k _ _ => by rw [h21])
theorem fwS_m : Mf fwS := fun g h hm => by
  have h8 := hm 8 (Or.inl rfl) (by decide) (by decide) (by decide)
  have h21 := hm 21 (Or.inr (by decide)) (by decide) (by decide) (by decide)
  unfold fwS
  rw [h8]
  exact fi_congr (fun k _ _ => by unfold nl; rw [h21])
theorem ftS_m (a : Int) : Mf (fun g => vI (ftS g a)) := fun g h hm => by
  show vI (ftS h a) = vI (ftS g a)
  unfold ftS
  rw [frS_m g h hm, fwS_m g h hm]
theorem fr7 {g : GI} (hsg : Isg g g) (htx : Itx g g) : fr g 12 (g 7 0 9) (g 5 0 1).toNat 0 0 0 = frS g := by
  unfold frS
  rw [hsg.2.2, htx.2.2.1]
  exact fr_congr (fun k k0 k1 => (htx.2.2.2 k k0 (by have := htx.1; omega)).symm)
theorem fw7 {g : GI} (hsg : Isg g g) (htx : Itx g g) : fi (g 5 0 1).toNat 0 (nl g 12 (g 7 0 9)) (-1) = fwS g := by
  unfold fwS
  rw [hsg.2.2, htx.2.2.1]
  exact nl_congr htx.1 htx.2.2.2
theorem C7_fault (a : Int) : C7 48 [vI a] (fun g => vI (ftS g a)) := by
  intro c g r hc0 hc1 hI
  have hI' := hI
  obtain ⟨⟨hS, hR, h6, hP⟩, hsg, htx, hru, hwd, hnw, hst, hsh, hla⟩ := hI'
  show Ou 48 0 [vR 7 0, vI a] [] g r (fun xx g1 r1 => xx = some (vI (ftS g a)) ∧ FJ g r g1 r1)
  obtain ⟨sg1, sg2, sg3⟩ := hI.2.1
  obtain ⟨tx1, tx2, tx3, tx4⟩ := hI.2.2.1
  have ru0 : g 7 0 10 = g 8 0 8 := hI.2.2.2.1.1.1
  have ru1 := hI.2.2.2.1.2.1.1
  have wd0 : g 1 0 1 = g 8 0 14 := hI.2.2.2.2.1.1.1
  have wd1 := hI.2.2.2.2.1.2.1.1
  have wd2 := hI.2.2.2.2.1.2.2
  have nw0 : g 0 0 0 = g 27 0 8 := hI.2.2.2.2.2.1.1.1
  have nw1 : g 0 0 1 = g 28 0 8 := hI.2.2.2.2.2.1.1.2.1
  have nw2 := hI.2.2.2.2.2.1.2.1
  have nw3 := hI.2.2.2.2.2.1.2.2.1
  have st0 := hI.2.2.2.2.2.2.1.1
  have st1 := hI.2.2.2.2.2.2.1.2.1
  have st2 := hI.2.2.2.2.2.2.1.2.2.1
  have la0 : g 7 0 13 = g 8 0 4 := hI.2.2.2.2.2.2.2.2
  refine o_iload_n (n := 1) rfl rfl rfl ?_
  refine o_look2 (t0 := 28) (t1 := 40) (td := 52) rfl rfl rfl rfl (fun q1 => ?_) (fun q1 => ?_) (fun q1 q1x => ?_)
  · refine o_aload_n (n := 29) rfl rfl rfl ?_
    refine of_7_0 (n := 32) hS rfl rfl ?_
    refine o_aload_n (n := 33) rfl rfl rfl ?_
    refine o_geti (n := 36) rfl rfl rfl rfl rfl ?_
    refine o_invi (n := 39) rfl rfl rfl rfl rfl rfl rfl rfl rfl rfl (c5_faultAsRule hS _ (by omega) (by omega) (by omega) (by omega)) ?_
    refine o_iret rfl rfl ?_
    first
      | (have hz : a = 0 := by omega
         refine ⟨congrArg (fun z => some (vI z)) ?_, FJ_refl h6⟩
         unfold ftS
         rw [cif_t hz]; exact fr7 hsg htx)
      | (have hz : a = 1 := by omega
         refine ⟨congrArg (fun z => some (vI z)) ?_, FJ_refl h6⟩
         unfold ftS
         rw [cif_f (by omega), cif_t hz]; exact fw7 hsg htx)
      | (refine ⟨congrArg (fun z => some (vI z)) ?_, FJ_refl h6⟩
         unfold ftS
         rw [cif_f (by omega), cif_f (by omega)])
  · refine o_aload_n (n := 41) rfl rfl rfl ?_
    refine of_7_0 (n := 44) hS rfl rfl ?_
    refine o_aload_n (n := 45) rfl rfl rfl ?_
    refine o_geti (n := 48) rfl rfl rfl rfl rfl ?_
    refine o_invi (n := 51) rfl rfl rfl rfl rfl rfl rfl rfl rfl rfl (c5_faultAsWord hS _ (by omega) (by omega) (by omega) (by omega)) ?_
    refine o_iret rfl rfl ?_
    first
      | (have hz : a = 0 := by omega
         refine ⟨congrArg (fun z => some (vI z)) ?_, FJ_refl h6⟩
         unfold ftS
         rw [cif_t hz]; exact fr7 hsg htx)
      | (have hz : a = 1 := by omega
         refine ⟨congrArg (fun z => some (vI z)) ?_, FJ_refl h6⟩
         unfold ftS
         rw [cif_f (by omega), cif_t hz]; exact fw7 hsg htx)
      | (refine ⟨congrArg (fun z => some (vI z)) ?_, FJ_refl h6⟩
         unfold ftS
         rw [cif_f (by omega), cif_f (by omega)])
  · refine o_bipush (n := 54) rfl rfl ?_
    refine o_iret rfl rfl ?_
    first
      | (have hz : a = 0 := by omega
         refine ⟨congrArg (fun z => some (vI z)) ?_, FJ_refl h6⟩
         unfold ftS
         rw [cif_t hz]; exact fr7 hsg htx)
      | (have hz : a = 1 := by omega
         refine ⟨congrArg (fun z => some (vI z)) ?_, FJ_refl h6⟩
         unfold ftS
         rw [cif_f (by omega), cif_t hz]; exact fw7 hsg htx)
      | (refine ⟨congrArg (fun z => some (vI z)) ?_, FJ_refl h6⟩
         unfold ftS
         rw [cif_f (by omega), cif_f (by omega)])
theorem C8_fault (a : Int) : C8 127 [vI a] (fun g => vI (ftS g a)) := by
  intro c g r hc0 hc1 hI
  have hI' := hI
  obtain ⟨⟨hS, hR, h6, hP⟩, hsg, htx, hru, hwd, hnw, hst, hsh, hla⟩ := hI'
  show Ou 127 0 [vR 8 0, vI a] [] g r (fun xx g1 r1 => xx = some (vI (ftS g a)) ∧ r1 = r ∧ F8 g g1)
  obtain ⟨sg1, sg2, sg3⟩ := hI.2.1
  obtain ⟨tx1, tx2, tx3, tx4⟩ := hI.2.2.1
  have ru0 : g 7 0 10 = g 8 0 8 := hI.2.2.2.1.1.1
  have ru1 := hI.2.2.2.1.2.1.1
  have wd0 : g 1 0 1 = g 8 0 14 := hI.2.2.2.2.1.1.1
  have wd1 := hI.2.2.2.2.1.2.1.1
  have wd2 := hI.2.2.2.2.1.2.2
  have nw0 : g 0 0 0 = g 27 0 8 := hI.2.2.2.2.2.1.1.1
  have nw1 : g 0 0 1 = g 28 0 8 := hI.2.2.2.2.2.1.1.2.1
  have nw2 := hI.2.2.2.2.2.1.2.1
  have nw3 := hI.2.2.2.2.2.1.2.2.1
  have st0 := hI.2.2.2.2.2.2.1.1
  have st1 := hI.2.2.2.2.2.2.1.2.1
  have st2 := hI.2.2.2.2.2.2.1.2.2.1
  have la0 : g 7 0 13 = g 8 0 4 := hI.2.2.2.2.2.2.2.2
  refine o_iload_n (n := 1) rfl rfl rfl ?_
  refine o_if_ne (n := 4) (t := 11) rfl rfl rfl (fun k1 => ?_) (fun k1 => ?_)
  · refine o_iload_n (n := 12) rfl rfl rfl ?_
    refine o_iconst (n := 13) rfl rfl ?_
    refine o_icmp_ne (n := 16) (t := 23) rfl rfl rfl (fun k13 => ?_) (fun k13 => ?_)
    · refine o_bipush (n := 25) rfl rfl ?_
      refine o_iret rfl rfl ?_
      first
        | (have hz : a = 0 := by omega
           refine ⟨congrArg (fun z => some (vI z)) ?_, rfl, F8_refl g⟩
           unfold ftS
           rw [cif_t hz]; rfl)
        | (have hz : a = 1 := by omega
           refine ⟨congrArg (fun z => some (vI z)) ?_, rfl, F8_refl g⟩
           unfold ftS
           rw [cif_f (by omega), cif_t hz]; rfl)
        | (refine ⟨congrArg (fun z => some (vI z)) ?_, rfl, F8_refl g⟩
           unfold ftS
           rw [cif_f (by omega), cif_f (by omega)])
    · refine o_aload_n (n := 17) rfl rfl rfl ?_
      refine o_invi (n := 20) rfl rfl rfl rfl rfl rfl rfl rfl rfl rfl (c8_faultOfWord hS (by omega) (by omega) (by omega) (by omega)) ?_
      refine o_goto (t := 25) rfl rfl ?_
      refine o_iret rfl rfl ?_
      first
        | (have hz : a = 0 := by omega
           refine ⟨congrArg (fun z => some (vI z)) ?_, rfl, F8_refl g⟩
           unfold ftS
           rw [cif_t hz]; rfl)
        | (have hz : a = 1 := by omega
           refine ⟨congrArg (fun z => some (vI z)) ?_, rfl, F8_refl g⟩
           unfold ftS
           rw [cif_f (by omega), cif_t hz]; rfl)
        | (refine ⟨congrArg (fun z => some (vI z)) ?_, rfl, F8_refl g⟩
           unfold ftS
           rw [cif_f (by omega), cif_f (by omega)])
  · refine o_aload_n (n := 5) rfl rfl rfl ?_
    refine o_invi (n := 8) rfl rfl rfl rfl rfl rfl rfl rfl rfl rfl (c8_faultOfRule hS (by omega) (by omega) (by omega) (by omega)) ?_
    refine o_goto (t := 25) rfl rfl ?_
    refine o_iret rfl rfl ?_
    first
      | (have hz : a = 0 := by omega
         refine ⟨congrArg (fun z => some (vI z)) ?_, rfl, F8_refl g⟩
         unfold ftS
         rw [cif_t hz]; rfl)
      | (have hz : a = 1 := by omega
         refine ⟨congrArg (fun z => some (vI z)) ?_, rfl, F8_refl g⟩
         unfold ftS
         rw [cif_f (by omega), cif_t hz]; rfl)
      | (refine ⟨congrArg (fun z => some (vI z)) ?_, rfl, F8_refl g⟩
         unfold ftS
         rw [cif_f (by omega), cif_f (by omega)])
theorem p_fault (a : Int) : Pr 48 127 [vI a] := pr_of (C7_fault a) (C8_fault a) (ftS_m a)
