/-! value and measure of both. Written by wip/gen/gen34.py -/
theorem mt_in {ρ n : Int} {E : Int → Int → Int → Int} {w : Int → Int} {len x y : Int} (hb : Br ρ n E) (hw : Bw len w) (h : ¬ vo ρ n E w len.toNat) (a : 0 ≤ x) (b : x < n) (c : 0 ≤ y) (d : y < n) : inI (mt ρ n E w len.toNat x y) := by
  have hl := hw.1
  have := mt_b hb hw len.toNat (by omega) h x y a b c d
  by_cases z : ρ = 0
  · have := this.1 z; omega
  · have := this.2 z; omega
noncomputable def msu (g : GI) (d : Int) : Int := cif (vo (g 27 0 d) (g 28 0 d) (E8 g d) (g 25 0) (g 8 0 14).toNat) (-5) (mt (g 27 0 d) (g 28 0 d) (E8 g d) (g 25 0) (g 8 0 14).toNat 0 (cif (g 27 0 d = 0) (g 28 0 d - 1) 0))
noncomputable def msS (g : GI) (k : Int) : Int := cif (k = -1) (msu g 8) (cif (0 ≤ k ∧ k < g 8 0 19) (msu g k) (-2))
theorem msu_m (d : Int) : Mf (fun g => msu g d) := fun g h hm => by
  have e : ∀ k, (k = 25 ∨ k = 26 ∨ k = 27 ∨ k = 28) → h k = g k := fun k hk => hm k (Or.inr (by omega)) (by omega) (by omega) (by omega)
  show msu h d = msu g d
  unfold msu
  rw [E8_m (e 26 (by omega)), e 25 (by omega), e 27 (by omega), e 28 (by omega), hm 8 (Or.inl rfl) (by decide) (by decide) (by decide)]
theorem msS_m (k : Int) : Mf (fun g => vI (msS g k)) := fun g h hm => by
  show vI (msS h k) = vI (msS g k)
  unfold msS
  rw [show msu h 8 = msu g 8 from msu_m 8 g h hm, show msu h k = msu g k from msu_m k g h hm, hm 8 (Or.inl rfl) (by decide) (by decide) (by decide)]
section V2
variable {g r : GI} {c : Int}
theorem c8_valueBy (hI : Iv c g g r) {i s x y : Int} (i0 : 0 ≤ i) (i1 : i < g 8 0 8) (hs : s = 0 ∨ s = 1) (x0 : 0 ≤ x) (x1 : x < g 28 0 8) (y0 : 0 ≤ y) (y1 : y < g 28 0 8) : Ou 155 0 (am_ini 155 [vR 8 0, vI i, vI s, vI x, vI y]) [] g r (fun v g1 r1 => v = some (vI (vlu g i s x y)) ∧ r1 = r ∧ F8 g g1) := by
  show Ou 155 0 [vR 8 0, vI i, vI s, vI x, vI y] [] g r _
  obtain ⟨⟨hS, hR, h6, hP⟩, hsg, htx, hru, hwd, hnw, hst, hsh, hla⟩ := id hI
  obtain ⟨sg1, sg2, sg3⟩ := hI.2.1
  obtain ⟨tx1, tx2, tx3, tx4⟩ := hI.2.2.1
  have ru0 : g 7 0 10 = g 8 0 8 := hI.2.2.2.1.1.1
  have ru1 := hI.2.2.2.1.2.1.1
  have wd0 : g 1 0 1 = g 8 0 14 := hI.2.2.2.2.1.1.1
  have wd1 := hI.2.2.2.2.1.2.1.1
  have wd2 := hI.2.2.2.2.1.2.2
  have nw0 : g 0 0 0 = g 27 0 8 := hI.2.2.2.2.2.1.1.1
  have nw1 : g 0 0 1 = g 28 0 8 := hI.2.2.2.2.2.1.1.2.1
  have nw2 := hI.2.2.2.2.2.1.2.1
  have nw3 := hI.2.2.2.2.2.1.2.2.1
  have st0 := hI.2.2.2.2.2.2.1.1
  have st1 := hI.2.2.2.2.2.2.1.2.1
  have st2 := hI.2.2.2.2.2.2.1.2.2.1
  have la0 : g 7 0 13 = g 8 0 4 := hI.2.2.2.2.2.2.2.2
  have hrb := ru_b hru i0 i1 hs
  have hrs := ru_s hru i0 i1 hs
  refine o_aload_n (n := 1) rfl rfl rfl ?_
  refine o_bipush (n := 3) rfl rfl ?_
  refine o_aload_n (n := 4) rfl rfl rfl ?_
  refine of_8_9 (n := 7) hS rfl rfl ?_
  refine o_bipush (n := 9) rfl rfl ?_
  refine o_iload_n (n := 10) rfl rfl rfl ?_
  refine o_imul (n := 11) rfl rfl (by omega) ?_
  refine o_bipush (n := 13) rfl rfl ?_
  refine o_iload_n (n := 14) rfl rfl rfl ?_
  refine o_imul (n := 15) rfl rfl (by omega) ?_
  refine o_iadd (n := 16) rfl rfl (by omega) ?_
  refine o_aload_n (n := 17) rfl rfl rfl ?_
  refine of_8_10 (n := 20) hS rfl rfl ?_
  refine o_iconst (n := 21) rfl rfl ?_
  refine o_iload_n (n := 22) rfl rfl rfl ?_
  refine o_imul (n := 23) rfl rfl (by omega) ?_
  refine o_iload_n (n := 24) rfl rfl rfl ?_
  refine o_iadd (n := 25) rfl rfl (by omega) ?_
  refine o_iald (n := 26) (L := 16) rfl rfl rfl rfl rfl (by omega) (by omega) ?_
  obtain ⟨v1, g1, r1, hc, hr1, f1, hv1, hm1⟩ := rt_ex (show Ou 137 0 (am_ini 137 [vR 8 0, vI 8, vR 22 0, vI (12 * i + 6 * s), vI (g 23 0 (2 * i + s))]) [] g r _ from c8_reckons_s hS (d := 8) (by omega) (by omega) hnw.2 hrb (Vr8_E 8) (fun k k0 k1 => by unfold wsd; rw [show 12 * i + 6 * s + k = 6 * (2 * i + s) + k by omega]) (by omega) (by omega))
  subst hv1
  subst hr1
  refine o_invi (n := 29) rfl rfl rfl rfl rfl rfl rfl rfl rfl rfl (hc) ?_
  refine o_ifb_eq (n := 32) (t := 47) rfl rfl rfl (fun k29 => ?_) (fun k29 => ?_)
  · refine o_bipush (n := 49) rfl rfl ?_
    refine o_iret rfl rfl ?_
    first
      | (have hz := hm1 k29 x y x0 x1 y0 y1
         refine ⟨congrArg (fun z => some (vI z)) ?_, rfl, F8_9 f1⟩
         unfold vlu
         rw [cif_f k29, hz])
      | (refine ⟨congrArg (fun z => some (vI z)) ?_, rfl, F8_9 f1⟩
         unfold vlu
         rw [cif_t (Classical.not_not.mp k29)])
  · refine o_aload_n (n := 33) rfl rfl rfl ?_
    refine of_8_21 (n := 36) hS rfl rfl ?_
    refine o_iconst (n := 37) rfl rfl ?_
    refine o_iload_n (n := 38) rfl rfl rfl ?_
    refine o_imul (n := 39) rfl rfl (by omega) ?_
    refine o_iload (n := 41) rfl rfl rfl ?_
    refine o_iadd (n := 42) rfl rfl (by omega) ?_
    refine o_lald (n := 43) (L := 9) rfl rfl rfl rfl rfl (by omega) (by omega) ?_
    refine o_l2iN (n := 44) rfl rfl (by rw [hm1 k29 x y x0 x1 y0 y1]; exact mt_in hnw.2 hrb k29 x0 x1 y0 y1) ?_
    refine o_goto (t := 49) rfl rfl ?_
    refine o_iret rfl rfl ?_
    first
      | (have hz := hm1 k29 x y x0 x1 y0 y1
         refine ⟨congrArg (fun z => some (vI z)) ?_, rfl, F8_9 f1⟩
         unfold vlu
         rw [cif_f k29, hz])
      | (refine ⟨congrArg (fun z => some (vI z)) ?_, rfl, F8_9 f1⟩
         unfold vlu
         rw [cif_t (Classical.not_not.mp k29)])
end V2
theorem C8_value (i : Int) (s : Int) (x : Int) (y : Int) : C8 156 [vI i, vI s, vI x, vI y] (fun g => vI (vlS g i s x y)) := by
  intro c g r hc0 hc1 hI
  have hI' := hI
  obtain ⟨⟨hS, hR, h6, hP⟩, hsg, htx, hru, hwd, hnw, hst, hsh, hla⟩ := hI'
  show Ou 156 0 [vR 8 0, vI i, vI s, vI x, vI y, vN] [] g r (fun xx g1 r1 => xx = some (vI (vlS g i s x y)) ∧ r1 = r ∧ F8 g g1)
  obtain ⟨sg1, sg2, sg3⟩ := hI.2.1
  obtain ⟨tx1, tx2, tx3, tx4⟩ := hI.2.2.1
  have ru0 : g 7 0 10 = g 8 0 8 := hI.2.2.2.1.1.1
  have ru1 := hI.2.2.2.1.2.1.1
  have wd0 : g 1 0 1 = g 8 0 14 := hI.2.2.2.2.1.1.1
  have wd1 := hI.2.2.2.2.1.2.1.1
  have wd2 := hI.2.2.2.2.1.2.2
  have nw0 : g 0 0 0 = g 27 0 8 := hI.2.2.2.2.2.1.1.1
  have nw1 : g 0 0 1 = g 28 0 8 := hI.2.2.2.2.2.1.1.2.1
  have nw2 := hI.2.2.2.2.2.1.2.1
  have nw3 := hI.2.2.2.2.2.1.2.2.1
  have st0 := hI.2.2.2.2.2.2.1.1
  have st1 := hI.2.2.2.2.2.2.1.2.1
  have st2 := hI.2.2.2.2.2.2.1.2.2.1
  have la0 : g 7 0 13 = g 8 0 4 := hI.2.2.2.2.2.2.2.2
  refine o_aload_n (n := 1) rfl rfl rfl ?_
  refine o_iload_n (n := 2) rfl rfl rfl ?_
  refine o_invi (n := 5) rfl rfl rfl rfl rfl rfl rfl rfl rfl rfl (c8_isRule _ (by omega) (by omega)) ?_
  refine o_ifb_eq (n := 8) (t := 58) rfl rfl rfl (fun k5 => ?_) (fun k5 => ?_)
  · refine o_iconst (n := 59) rfl rfl ?_
    refine o_istore_5 (n := 61) rfl rfl rfl ?_
    refine o_iload (n := 63) rfl rfl rfl ?_
    refine o_if_eq (n := 66) (t := 78) rfl rfl rfl (fun k63 => ?_) (fun k63 => ?_)
    · refine o_bipush (n := 80) rfl rfl ?_
      refine o_iret rfl rfl ?_
      first
        | (exfalso; omega; done)
        | (have hf := f1
           refine ⟨congrArg (fun z => some (vI z)) ?_, rfl, hf⟩
           unfold vlS
           rw [cif_t (by omega)])
        | (refine ⟨congrArg (fun z => some (vI z)) ?_, rfl, F8_refl g⟩
           unfold vlS
           rw [cif_f (by omega)])
    · refine o_aload_n (n := 67) rfl rfl rfl ?_
      refine o_iload_n (n := 68) rfl rfl rfl ?_
      refine o_iload_n (n := 69) rfl rfl rfl ?_
      refine o_iload_n (n := 70) rfl rfl rfl ?_
      refine o_iload (n := 72) rfl rfl rfl ?_
      obtain ⟨v1, g1, r1, hc, hv1, hr1, f1⟩ := rt_ex (c8_valueBy hI (i := i) (s := s) (x := x) (y := y) (by omega) (by omega) (by omega) (by omega) (by omega) (by omega) (by omega))
      subst hv1
      subst hr1
      refine o_invi (n := 75) rfl rfl rfl rfl rfl rfl rfl rfl rfl rfl (hc) ?_
      refine o_goto (t := 80) rfl rfl ?_
      refine o_iret rfl rfl ?_
      first
        | (exfalso; omega; done)
        | (have hf := f1
           refine ⟨congrArg (fun z => some (vI z)) ?_, rfl, hf⟩
           unfold vlS
           rw [cif_t (by omega)])
        | (refine ⟨congrArg (fun z => some (vI z)) ?_, rfl, F8_refl g⟩
           unfold vlS
           rw [cif_f (by omega)])
  · refine o_iload_n (n := 9) rfl rfl rfl ?_
    refine o_invsi (n := 12) rfl rfl rfl rfl rfl rfl (c8_isTwo _) ?_
    refine o_ifb_eq (n := 15) (t := 58) rfl rfl rfl (fun k12 => ?_) (fun k12 => ?_)
    · refine o_iconst (n := 59) rfl rfl ?_
      refine o_istore_5 (n := 61) rfl rfl rfl ?_
      refine o_iload (n := 63) rfl rfl rfl ?_
      refine o_if_eq (n := 66) (t := 78) rfl rfl rfl (fun k63 => ?_) (fun k63 => ?_)
      · refine o_bipush (n := 80) rfl rfl ?_
        refine o_iret rfl rfl ?_
        first
          | (exfalso; omega; done)
          | (have hf := f1
             refine ⟨congrArg (fun z => some (vI z)) ?_, rfl, hf⟩
             unfold vlS
             rw [cif_t (by omega)])
          | (refine ⟨congrArg (fun z => some (vI z)) ?_, rfl, F8_refl g⟩
             unfold vlS
             rw [cif_f (by omega)])
      · refine o_aload_n (n := 67) rfl rfl rfl ?_
        refine o_iload_n (n := 68) rfl rfl rfl ?_
        refine o_iload_n (n := 69) rfl rfl rfl ?_
        refine o_iload_n (n := 70) rfl rfl rfl ?_
        refine o_iload (n := 72) rfl rfl rfl ?_
        obtain ⟨v1, g1, r1, hc, hv1, hr1, f1⟩ := rt_ex (c8_valueBy hI (i := i) (s := s) (x := x) (y := y) (by omega) (by omega) (by omega) (by omega) (by omega) (by omega) (by omega))
        subst hv1
        subst hr1
        refine o_invi (n := 75) rfl rfl rfl rfl rfl rfl rfl rfl rfl rfl (hc) ?_
        refine o_goto (t := 80) rfl rfl ?_
        refine o_iret rfl rfl ?_
        first
          | (exfalso; omega; done)
          | (have hf := f1
             refine ⟨congrArg (fun z => some (vI z)) ?_, rfl, hf⟩
             unfold vlS
             rw [cif_t (by omega)])
          | (refine ⟨congrArg (fun z => some (vI z)) ?_, rfl, F8_refl g⟩
             unfold vlS
             rw [cif_f (by omega)])
    · refine o_iload_n (n := 16) rfl rfl rfl ?_
      refine o_i2l (n := 17) rfl rfl ?_
      refine o_lconst (n := 18) rfl rfl ?_
      refine o_aload_n (n := 19) rfl rfl rfl ?_
      refine of_8_18 (n := 22) hS rfl rfl ?_
      refine o_bipush (n := 24) rfl rfl ?_
      refine o_iald (n := 25) (L := 9) rfl rfl rfl rfl rfl (by omega) (by omega) ?_
      refine o_iconst (n := 26) rfl rfl ?_
      refine o_isub (n := 27) rfl rfl (by omega) ?_
      refine o_i2l (n := 28) rfl rfl ?_
      refine o_invsi (n := 31) rfl rfl rfl rfl rfl rfl (c8_in _ _ _) ?_
      refine o_ifb_eq (n := 34) (t := 58) rfl rfl rfl (fun k31 => ?_) (fun k31 => ?_)
      · refine o_iconst (n := 59) rfl rfl ?_
        refine o_istore_5 (n := 61) rfl rfl rfl ?_
        refine o_iload (n := 63) rfl rfl rfl ?_
        refine o_if_eq (n := 66) (t := 78) rfl rfl rfl (fun k63 => ?_) (fun k63 => ?_)
        · refine o_bipush (n := 80) rfl rfl ?_
          refine o_iret rfl rfl ?_
          first
            | (exfalso; omega; done)
            | (have hf := f1
               refine ⟨congrArg (fun z => some (vI z)) ?_, rfl, hf⟩
               unfold vlS
               rw [cif_t (by omega)])
            | (refine ⟨congrArg (fun z => some (vI z)) ?_, rfl, F8_refl g⟩
               unfold vlS
               rw [cif_f (by omega)])
        · refine o_aload_n (n := 67) rfl rfl rfl ?_
          refine o_iload_n (n := 68) rfl rfl rfl ?_
          refine o_iload_n (n := 69) rfl rfl rfl ?_
          refine o_iload_n (n := 70) rfl rfl rfl ?_
          refine o_iload (n := 72) rfl rfl rfl ?_
          obtain ⟨v1, g1, r1, hc, hv1, hr1, f1⟩ := rt_ex (c8_valueBy hI (i := i) (s := s) (x := x) (y := y) (by omega) (by omega) (by omega) (by omega) (by omega) (by omega) (by omega))
          subst hv1
          subst hr1
          refine o_invi (n := 75) rfl rfl rfl rfl rfl rfl rfl rfl rfl rfl (hc) ?_
          refine o_goto (t := 80) rfl rfl ?_
          refine o_iret rfl rfl ?_
          first
            | (exfalso; omega; done)
            | (have hf := f1
               refine ⟨congrArg (fun z => some (vI z)) ?_, rfl, hf⟩
               unfold vlS
               rw [cif_t (by omega)])
            | (refine ⟨congrArg (fun z => some (vI z)) ?_, rfl, F8_refl g⟩
               unfold vlS
               rw [cif_f (by omega)])
      · refine o_iload (n := 36) rfl rfl rfl ?_
        refine o_i2l (n := 37) rfl rfl ?_
        refine o_lconst (n := 38) rfl rfl ?_
        refine o_aload_n (n := 39) rfl rfl rfl ?_
        refine of_8_18 (n := 42) hS rfl rfl ?_
        refine o_bipush (n := 44) rfl rfl ?_
        refine o_iald (n := 45) (L := 9) rfl rfl rfl rfl rfl (by omega) (by omega) ?_
        refine o_iconst (n := 46) rfl rfl ?_
        refine o_isub (n := 47) rfl rfl (by omega) ?_
        refine o_i2l (n := 48) rfl rfl ?_
        refine o_invsi (n := 51) rfl rfl rfl rfl rfl rfl (c8_in _ _ _) ?_
        refine o_ifb_eq (n := 54) (t := 58) rfl rfl rfl (fun k51 => ?_) (fun k51 => ?_)
        · refine o_iconst (n := 59) rfl rfl ?_
          refine o_istore_5 (n := 61) rfl rfl rfl ?_
          refine o_iload (n := 63) rfl rfl rfl ?_
          refine o_if_eq (n := 66) (t := 78) rfl rfl rfl (fun k63 => ?_) (fun k63 => ?_)
          · refine o_bipush (n := 80) rfl rfl ?_
            refine o_iret rfl rfl ?_
            first
              | (exfalso; omega; done)
              | (have hf := f1
                 refine ⟨congrArg (fun z => some (vI z)) ?_, rfl, hf⟩
                 unfold vlS
                 rw [cif_t (by omega)])
              | (refine ⟨congrArg (fun z => some (vI z)) ?_, rfl, F8_refl g⟩
                 unfold vlS
                 rw [cif_f (by omega)])
          · refine o_aload_n (n := 67) rfl rfl rfl ?_
            refine o_iload_n (n := 68) rfl rfl rfl ?_
            refine o_iload_n (n := 69) rfl rfl rfl ?_
            refine o_iload_n (n := 70) rfl rfl rfl ?_
            refine o_iload (n := 72) rfl rfl rfl ?_
            obtain ⟨v1, g1, r1, hc, hv1, hr1, f1⟩ := rt_ex (c8_valueBy hI (i := i) (s := s) (x := x) (y := y) (by omega) (by omega) (by omega) (by omega) (by omega) (by omega) (by omega))
            subst hv1
            subst hr1
            refine o_invi (n := 75) rfl rfl rfl rfl rfl rfl rfl rfl rfl rfl (hc) ?_
            refine o_goto (t := 80) rfl rfl ?_
            refine o_iret rfl rfl ?_
            first
              | (exfalso; omega; done)
              | (have hf := f1
                 refine ⟨congrArg (fun z => some (vI z)) ?_, rfl, hf⟩
                 unfold vlS
                 rw [cif_t (by omega)])
              | (refine ⟨congrArg (fun z => some (vI z)) ?_, rfl, F8_refl g⟩
                 unfold vlS
                 rw [cif_f (by omega)])
        · refine o_iconst (n := 55) rfl rfl ?_
          refine o_goto (t := 59) rfl rfl ?_
          refine o_istore_5 (n := 61) rfl rfl rfl ?_
          refine o_iload (n := 63) rfl rfl rfl ?_
          refine o_if_eq (n := 66) (t := 78) rfl rfl rfl (fun k63 => ?_) (fun k63 => ?_)
          · refine o_bipush (n := 80) rfl rfl ?_
            refine o_iret rfl rfl ?_
            first
              | (exfalso; omega; done)
              | (have hf := f1
                 refine ⟨congrArg (fun z => some (vI z)) ?_, rfl, hf⟩
                 unfold vlS
                 rw [cif_t (by omega)])
              | (refine ⟨congrArg (fun z => some (vI z)) ?_, rfl, F8_refl g⟩
                 unfold vlS
                 rw [cif_f (by omega)])
          · refine o_aload_n (n := 67) rfl rfl rfl ?_
            refine o_iload_n (n := 68) rfl rfl rfl ?_
            refine o_iload_n (n := 69) rfl rfl rfl ?_
            refine o_iload_n (n := 70) rfl rfl rfl ?_
            refine o_iload (n := 72) rfl rfl rfl ?_
            obtain ⟨v1, g1, r1, hc, hv1, hr1, f1⟩ := rt_ex (c8_valueBy hI (i := i) (s := s) (x := x) (y := y) (by omega) (by omega) (by omega) (by omega) (by omega) (by omega) (by omega))
            subst hv1
            subst hr1
            refine o_invi (n := 75) rfl rfl rfl rfl rfl rfl rfl rfl rfl rfl (hc) ?_
            refine o_goto (t := 80) rfl rfl ?_
            refine o_iret rfl rfl ?_
            first
              | (exfalso; omega; done)
              | (have hf := f1
                 refine ⟨congrArg (fun z => some (vI z)) ?_, rfl, hf⟩
                 unfold vlS
                 rw [cif_t (by omega)])
              | (refine ⟨congrArg (fun z => some (vI z)) ?_, rfl, F8_refl g⟩
                 unfold vlS
                 rw [cif_f (by omega)])
theorem p_value (i s x y : Int) : Pr 59 156 [vI i, vI s, vI x, vI y] := pr_of (C7_value i s x y) (C8_value i s x y) (vlS_m i s x y)
section V3
variable {g r : GI} {c : Int}
theorem l7_meas (hI : Iv c g g r) {k e d : Int} (he : 0 ≤ e) (he1 : e < 10) (hb : Br (g 27 0 d) (g 28 0 d) (E8 g d)) (hV : Vr7 g e (g 27 0 d) (g 28 0 d) (E8 g d)) : Ou 72 37 [vR 7 0, vI k, vN] [vR 0 e] g r (fun v g1 r1 => v = some (vI (msu g d)) ∧ FJ g r g1 r1) := by
  obtain ⟨⟨hS, hR, h6, hP⟩, hsg, htx, hru, hwd, hnw, hst, hsh, hla⟩ := id hI
  obtain ⟨sg1, sg2, sg3⟩ := hI.2.1
  obtain ⟨tx1, tx2, tx3, tx4⟩ := hI.2.2.1
  have ru0 : g 7 0 10 = g 8 0 8 := hI.2.2.2.1.1.1
  have ru1 := hI.2.2.2.1.2.1.1
  have wd0 : g 1 0 1 = g 8 0 14 := hI.2.2.2.2.1.1.1
  have wd1 := hI.2.2.2.2.1.2.1.1
  have wd2 := hI.2.2.2.2.1.2.2
  have nw0 : g 0 0 0 = g 27 0 8 := hI.2.2.2.2.2.1.1.1
  have nw1 : g 0 0 1 = g 28 0 8 := hI.2.2.2.2.2.1.1.2.1
  have nw2 := hI.2.2.2.2.2.1.2.1
  have nw3 := hI.2.2.2.2.2.1.2.2.1
  have st0 := hI.2.2.2.2.2.2.1.1
  have st1 := hI.2.2.2.2.2.2.1.2.1
  have st2 := hI.2.2.2.2.2.2.1.2.2.1
  have la0 : g 7 0 13 = g 8 0 4 := hI.2.2.2.2.2.2.2.2
  have hbn := hb.2.1
  refine o_astore_2 (n := 38) rfl rfl rfl ?_
  refine o_aload_n (n := 39) rfl rfl rfl ?_
  refine of_7_7 (n := 42) hS rfl rfl ?_
  refine o_aload_n (n := 43) rfl rfl rfl ?_
  refine of_7_1 (n := 46) hS rfl rfl ?_
  refine o_aload_n (n := 47) rfl rfl rfl ?_
  obtain ⟨v1, g1, r1, hc1, hv1, f1, hh1⟩ := rt_ex (c6_reckon (g := g) (w := g 25 0) (E := E8 g d) hS hR h6 (v := 0) (by omega) (by omega) (e := e) he he1 hb hV (q := 0) (by omega) (by omega) hwd.2.1 hwd.1 (by show g 8 0 14 ≤ 24; omega))
  subst hv1
  have hS := St_F hS f1.rk
  have hR := Rg_F hR f1.rk f1.r6
  have e0 : g1 0 e 0 = g 27 0 d := by rw [f1.k 0 (by decide) (by decide)]; exact hV.1
  have e1 : g1 0 e 1 = g 28 0 d := by rw [f1.k 0 (by decide) (by decide)]; exact hV.2.1
  refine o_invv (n := 50) rfl rfl rfl rfl rfl rfl rfl rfl rfl (ok_6 (by omega) (by omega)) (hc1) ?_
  refine o_aload_n (n := 51) rfl rfl rfl ?_
  refine of_7_7 (n := 54) hS rfl rfl ?_
  refine o_geti (n := 57) rfl rfl rfl (ok_6 (by omega) (by omega)) rfl ?_
  refine o_if_eq (n := 60) (t := 63) rfl rfl rfl (fun q57 => ?_) (fun q57 => ?_)
  · refine o_aload_n (n := 64) rfl rfl rfl ?_
    refine of_7_7 (n := 67) hS rfl rfl ?_
    refine o_iconst (n := 68) rfl rfl ?_
    refine o_aload_n (n := 69) rfl rfl rfl ?_
    refine o_geti (n := 72) rfl rfl rfl (ok_0 (by omega) (by omega)) rfl ?_
    refine o_if_ne (n := 75) (t := 84) rfl rfl rfl (fun q72 => ?_) (fun q72 => ?_)
    · refine o_iconst (n := 85) rfl rfl ?_
      refine o_invi (n := 88) rfl rfl rfl rfl rfl rfl rfl rfl rfl (ok_6 (by omega) (by omega)) (c6_cellAt hR _ _ _ (by omega) (by omega) (by omega) (by omega) (by omega) (by omega)) ?_
      refine o_iret rfl rfl ?_
      refine ⟨congrArg (fun z => some (vI z)) ?_, FJ_7 f1⟩
      unfold msu
      rcases hh1 with ⟨a1, b1⟩ | ⟨a1, b1, d1⟩
      · first | (rw [cif_t a1]; done) | (exfalso; omega)
      · first
          | (exfalso; omega; done)
          | (rw [cif_f a1, cif_t (show g 27 0 d = 0 by omega), ← d1 0 (g 28 0 d - 1) (by omega) (by omega) (by omega) (by omega), e1])
          | (rw [cif_f a1, cif_f (show ¬ g 27 0 d = 0 by omega), ← d1 0 0 (by omega) (by omega) (by omega) (by omega)])
    · refine o_aload_n (n := 76) rfl rfl rfl ?_
      refine o_geti (n := 79) rfl rfl rfl (ok_0 (by omega) (by omega)) rfl ?_
      refine o_iconst (n := 80) rfl rfl ?_
      refine o_isub (n := 81) rfl rfl (by omega) ?_
      refine o_goto (t := 85) rfl rfl ?_
      refine o_invi (n := 88) rfl rfl rfl rfl rfl rfl rfl rfl rfl (ok_6 (by omega) (by omega)) (c6_cellAt hR _ _ _ (by omega) (by omega) (by omega) (by omega) (by omega) (by omega)) ?_
      refine o_iret rfl rfl ?_
      refine ⟨congrArg (fun z => some (vI z)) ?_, FJ_7 f1⟩
      unfold msu
      rcases hh1 with ⟨a1, b1⟩ | ⟨a1, b1, d1⟩
      · first | (rw [cif_t a1]; done) | (exfalso; omega)
      · first
          | (exfalso; omega; done)
          | (rw [cif_f a1, cif_t (show g 27 0 d = 0 by omega), ← d1 0 (g 28 0 d - 1) (by omega) (by omega) (by omega) (by omega), e1])
          | (rw [cif_f a1, cif_f (show ¬ g 27 0 d = 0 by omega), ← d1 0 0 (by omega) (by omega) (by omega) (by omega)])
  · refine o_bipush (n := 62) rfl rfl ?_
    refine o_iret rfl rfl ?_
    refine ⟨congrArg (fun z => some (vI z)) ?_, FJ_7 f1⟩
    unfold msu
    rcases hh1 with ⟨a1, b1⟩ | ⟨a1, b1, d1⟩
    · first | (rw [cif_t a1]; done) | (exfalso; omega)
    · first
        | (exfalso; omega; done)
        | (rw [cif_f a1, cif_t (show g 27 0 d = 0 by omega), ← d1 0 (g 28 0 d - 1) (by omega) (by omega) (by omega) (by omega), e1])
        | (rw [cif_f a1, cif_f (show ¬ g 27 0 d = 0 by omega), ← d1 0 0 (by omega) (by omega) (by omega) (by omega)])
end V3
theorem C7_measure (k : Int) : C7 72 [vI k] (fun g => vI (msS g k)) := by
  intro c g r hc0 hc1 hI
  have hI' := hI
  obtain ⟨⟨hS, hR, h6, hP⟩, hsg, htx, hru, hwd, hnw, hst, hsh, hla⟩ := hI'
  show Ou 72 0 [vR 7 0, vI k, vN] [] g r (fun xx g1 r1 => xx = some (vI (msS g k)) ∧ FJ g r g1 r1)
  obtain ⟨sg1, sg2, sg3⟩ := hI.2.1
  obtain ⟨tx1, tx2, tx3, tx4⟩ := hI.2.2.1
  have ru0 : g 7 0 10 = g 8 0 8 := hI.2.2.2.1.1.1
  have ru1 := hI.2.2.2.1.2.1.1
  have wd0 : g 1 0 1 = g 8 0 14 := hI.2.2.2.2.1.1.1
  have wd1 := hI.2.2.2.2.1.2.1.1
  have wd2 := hI.2.2.2.2.1.2.2
  have nw0 : g 0 0 0 = g 27 0 8 := hI.2.2.2.2.2.1.1.1
  have nw1 : g 0 0 1 = g 28 0 8 := hI.2.2.2.2.2.1.1.2.1
  have nw2 := hI.2.2.2.2.2.1.2.1
  have nw3 := hI.2.2.2.2.2.1.2.2.1
  have st0 := hI.2.2.2.2.2.2.1.1
  have st1 := hI.2.2.2.2.2.2.1.2.1
  have st2 := hI.2.2.2.2.2.2.1.2.2.1
  have la0 : g 7 0 13 = g 8 0 4 := hI.2.2.2.2.2.2.2.2
  refine o_iload_n (n := 1) rfl rfl rfl ?_
  refine o_iconst (n := 2) rfl rfl ?_
  refine o_icmp_eq (n := 5) (t := 16) rfl rfl rfl (fun q2 => ?_) (fun q2 => ?_)
  · refine o_iload_n (n := 17) rfl rfl rfl ?_
    refine o_iconst (n := 18) rfl rfl ?_
    refine o_icmp_ne (n := 21) (t := 28) rfl rfl rfl (fun q18 => ?_) (fun q18 => ?_)
    · refine o_aload_n (n := 29) rfl rfl rfl ?_
      refine of_7_3 (n := 32) hS rfl rfl ?_
      refine o_iload_n (n := 33) rfl rfl rfl ?_
      refine o_ra15 (n := 34) hR rfl rfl (by omega) (by omega) (fun hA33 hB33 => ?_)
      refine of_4_0 (n := 37) hS rfl rfl (by omega) (by omega) ?_
      first
        | (exfalso; omega; done)
        | (have hk : k = -1 := by omega
           rw [show msS g k = msu g 8 from cif_t hk]
           exact l7_meas hI (by omega) (by omega) hnw.2 hnw.1)
        | (have hk : 0 ≤ k ∧ k < g 8 0 19 := by omega
           have hs := hst.2.2.2 k hk.1 hk.2
           have hr := hR.2.1 k hk.1 (by omega)
           rw [show msS g k = msu g k from (cif_f (by omega)).trans (cif_t hk)]
           exact l7_meas hI (by omega) (by omega) hs.2.2.1 hs.2.1)
    · refine o_aload_n (n := 22) rfl rfl rfl ?_
      refine of_7_5 (n := 25) hS rfl rfl ?_
      refine o_goto (t := 37) rfl rfl ?_
      first
        | (exfalso; omega; done)
        | (have hk : k = -1 := by omega
           rw [show msS g k = msu g 8 from cif_t hk]
           exact l7_meas hI (by omega) (by omega) hnw.2 hnw.1)
        | (have hk : 0 ≤ k ∧ k < g 8 0 19 := by omega
           have hs := hst.2.2.2 k hk.1 hk.2
           have hr := hR.2.1 k hk.1 (by omega)
           rw [show msS g k = msu g k from (cif_f (by omega)).trans (cif_t hk)]
           exact l7_meas hI (by omega) (by omega) hs.2.2.1 hs.2.1)
  · refine o_aload_n (n := 6) rfl rfl rfl ?_
    refine o_iload_n (n := 7) rfl rfl rfl ?_
    refine o_invi (n := 10) rfl rfl rfl rfl rfl rfl rfl rfl rfl rfl (c7_isStage _) ?_
    refine o_ifb_ne (n := 13) (t := 16) rfl rfl rfl (fun q10 => ?_) (fun q10 => ?_)
    · refine o_iload_n (n := 17) rfl rfl rfl ?_
      refine o_iconst (n := 18) rfl rfl ?_
      refine o_icmp_ne (n := 21) (t := 28) rfl rfl rfl (fun q18 => ?_) (fun q18 => ?_)
      · refine o_aload_n (n := 29) rfl rfl rfl ?_
        refine of_7_3 (n := 32) hS rfl rfl ?_
        refine o_iload_n (n := 33) rfl rfl rfl ?_
        refine o_ra15 (n := 34) hR rfl rfl (by omega) (by omega) (fun hA33 hB33 => ?_)
        refine of_4_0 (n := 37) hS rfl rfl (by omega) (by omega) ?_
        first
          | (exfalso; omega; done)
          | (have hk : k = -1 := by omega
             rw [show msS g k = msu g 8 from cif_t hk]
             exact l7_meas hI (by omega) (by omega) hnw.2 hnw.1)
          | (have hk : 0 ≤ k ∧ k < g 8 0 19 := by omega
             have hs := hst.2.2.2 k hk.1 hk.2
             have hr := hR.2.1 k hk.1 (by omega)
             rw [show msS g k = msu g k from (cif_f (by omega)).trans (cif_t hk)]
             exact l7_meas hI (by omega) (by omega) hs.2.2.1 hs.2.1)
      · refine o_aload_n (n := 22) rfl rfl rfl ?_
        refine of_7_5 (n := 25) hS rfl rfl ?_
        refine o_goto (t := 37) rfl rfl ?_
        first
          | (exfalso; omega; done)
          | (have hk : k = -1 := by omega
             rw [show msS g k = msu g 8 from cif_t hk]
             exact l7_meas hI (by omega) (by omega) hnw.2 hnw.1)
          | (have hk : 0 ≤ k ∧ k < g 8 0 19 := by omega
             have hs := hst.2.2.2 k hk.1 hk.2
             have hr := hR.2.1 k hk.1 (by omega)
             rw [show msS g k = msu g k from (cif_f (by omega)).trans (cif_t hk)]
             exact l7_meas hI (by omega) (by omega) hs.2.2.1 hs.2.1)
    · refine o_bipush (n := 15) rfl rfl ?_
      refine o_iret rfl rfl ?_
      refine ⟨congrArg (fun z => some (vI z)) ?_, FJ_refl h6⟩
      unfold msS
      rw [cif_f (by omega), cif_f (by omega)]
section V4
variable {g r : GI} {c : Int}
theorem c8_measureBy (hI : Iv c g g r) {d : Int} (d0 : 0 ≤ d) (d1 : d < 9) (hb : Br (g 27 0 d) (g 28 0 d) (E8 g d)) : Ou 183 0 (am_ini 183 [vR 8 0, vI d]) [] g r (fun v g1 r1 => v = some (vI (msu g d)) ∧ r1 = r ∧ F8 g g1) := by
  show Ou 183 0 [vR 8 0, vI d] [] g r _
  obtain ⟨⟨hS, hR, h6, hP⟩, hsg, htx, hru, hwd, hnw, hst, hsh, hla⟩ := id hI
  obtain ⟨sg1, sg2, sg3⟩ := hI.2.1
  obtain ⟨tx1, tx2, tx3, tx4⟩ := hI.2.2.1
  have ru0 : g 7 0 10 = g 8 0 8 := hI.2.2.2.1.1.1
  have ru1 := hI.2.2.2.1.2.1.1
  have wd0 : g 1 0 1 = g 8 0 14 := hI.2.2.2.2.1.1.1
  have wd1 := hI.2.2.2.2.1.2.1.1
  have wd2 := hI.2.2.2.2.1.2.2
  have nw0 : g 0 0 0 = g 27 0 8 := hI.2.2.2.2.2.1.1.1
  have nw1 : g 0 0 1 = g 28 0 8 := hI.2.2.2.2.2.1.1.2.1
  have nw2 := hI.2.2.2.2.2.1.2.1
  have nw3 := hI.2.2.2.2.2.1.2.2.1
  have st0 := hI.2.2.2.2.2.2.1.1
  have st1 := hI.2.2.2.2.2.2.1.2.1
  have st2 := hI.2.2.2.2.2.2.1.2.2.1
  have la0 : g 7 0 13 = g 8 0 4 := hI.2.2.2.2.2.2.2.2
  have hbn := hb.2.1
  refine o_aload_n (n := 1) rfl rfl rfl ?_
  refine o_iload_n (n := 2) rfl rfl rfl ?_
  refine o_aload_n (n := 3) rfl rfl rfl ?_
  refine of_8_13 (n := 6) hS rfl rfl ?_
  refine o_iconst (n := 7) rfl rfl ?_
  refine o_aload_n (n := 8) rfl rfl rfl ?_
  refine o_geti (n := 11) rfl rfl rfl rfl rfl ?_
  obtain ⟨v1, g1, r1, hc, hr1, f1, hv1, hm1⟩ := rt_ex (show Ou 137 0 (am_ini 137 [vR 8 0, vI d, vR 25 0, vI 0, vI (g 8 0 14)]) [] g r _ from c8_reckons_w hS (d := d) d0 d1 hb hwd.2.1 (Vr8_E d) (fun k k0 k1 => by rw [Int.zero_add]) (by omega) (by omega))
  subst hv1
  subst hr1
  have e27 : g1 27 = g 27 := f1 27 (by decide) (by decide)
  have e28 : g1 28 = g 28 := f1 28 (by decide) (by decide)
  refine o_invi (n := 14) rfl rfl rfl rfl rfl rfl rfl rfl rfl rfl (hc) ?_
  refine o_ifb_ne (n := 17) (t := 20) rfl rfl rfl (fun k14 => ?_) (fun k14 => ?_)
  · refine o_aload_n (n := 21) rfl rfl rfl ?_
    refine of_8_21 (n := 24) hS rfl rfl ?_
    refine o_aload_n (n := 25) rfl rfl rfl ?_
    refine of_8_17 (n := 28) hS rfl rfl ?_
    refine o_iload_n (n := 29) rfl rfl rfl ?_
    refine o_iald (n := 30) (L := 9) rfl rfl rfl rfl rfl (by omega) (by omega) ?_
    first | rw [e27] | rw [e28] | skip
    refine o_if_ne (n := 33) (t := 44) rfl rfl rfl (fun k30 => ?_) (fun k30 => ?_)
    · refine o_iconst (n := 45) rfl rfl ?_
      refine o_lald (n := 46) (L := 9) rfl rfl rfl rfl rfl (by omega) (by omega) ?_
      have hj : ∀ j, 0 ≤ j → j < g 28 0 d → g1 30 0 j = mt (g 27 0 d) (g 28 0 d) (E8 g d) (g 25 0) (g 8 0 14).toNat 0 j := fun j j0 j1 => by
        have := hm1 k14 0 j (by omega) (by omega) j0 j1
        rw [show 3 * 0 + j = j by omega] at this
        exact this
      refine o_l2iN (n := 47) rfl rfl (by rw [hj _ (by omega) (by omega)]; exact mt_in hb hwd.2.1 k14 (by omega) (by omega) (by omega) (by omega)) ?_
      refine o_iret rfl rfl ?_
      first
        | (have hz := hj
           refine ⟨congrArg (fun z => some (vI z)) ?_, rfl, F8_9 f1⟩
           unfold msu
           rw [cif_f k14, hj _ (by omega) (by omega)]
           first | rw [cif_t (by omega)] | rw [cif_f (by omega)])
        | (refine ⟨congrArg (fun z => some (vI z)) ?_, rfl, F8_9 f1⟩
           unfold msu
           rw [cif_t (Classical.not_not.mp k14)])
    · refine o_aload_n (n := 34) rfl rfl rfl ?_
      refine of_8_18 (n := 37) hS rfl rfl ?_
      refine o_iload_n (n := 38) rfl rfl rfl ?_
      refine o_iald (n := 39) (L := 9) rfl rfl rfl rfl rfl (by omega) (by omega) ?_
      first | rw [e27] | rw [e28] | skip
      refine o_iconst (n := 40) rfl rfl ?_
      refine o_isub (n := 41) rfl rfl (by omega) ?_
      refine o_goto (t := 45) rfl rfl ?_
      refine o_lald (n := 46) (L := 9) rfl rfl rfl rfl rfl (by omega) (by omega) ?_
      have hj : ∀ j, 0 ≤ j → j < g 28 0 d → g1 30 0 j = mt (g 27 0 d) (g 28 0 d) (E8 g d) (g 25 0) (g 8 0 14).toNat 0 j := fun j j0 j1 => by
        have := hm1 k14 0 j (by omega) (by omega) j0 j1
        rw [show 3 * 0 + j = j by omega] at this
        exact this
      refine o_l2iN (n := 47) rfl rfl (by rw [hj _ (by omega) (by omega)]; exact mt_in hb hwd.2.1 k14 (by omega) (by omega) (by omega) (by omega)) ?_
      refine o_iret rfl rfl ?_
      first
        | (have hz := hj
           refine ⟨congrArg (fun z => some (vI z)) ?_, rfl, F8_9 f1⟩
           unfold msu
           rw [cif_f k14, hj _ (by omega) (by omega)]
           first | rw [cif_t (by omega)] | rw [cif_f (by omega)])
        | (refine ⟨congrArg (fun z => some (vI z)) ?_, rfl, F8_9 f1⟩
           unfold msu
           rw [cif_t (Classical.not_not.mp k14)])
  · refine o_bipush (n := 19) rfl rfl ?_
    refine o_iret rfl rfl ?_
    first
      | (have hz := hj
         refine ⟨congrArg (fun z => some (vI z)) ?_, rfl, F8_9 f1⟩
         unfold msu
         rw [cif_f k14, hj _ (by omega) (by omega)]
         first | rw [cif_t (by omega)] | rw [cif_f (by omega)])
      | (refine ⟨congrArg (fun z => some (vI z)) ?_, rfl, F8_9 f1⟩
         unfold msu
         rw [cif_t (Classical.not_not.mp k14)])
end V4
theorem C8_measure (k : Int) : C8 184 [vI k] (fun g => vI (msS g k)) := by
  intro c g r hc0 hc1 hI
  have hI' := hI
  obtain ⟨⟨hS, hR, h6, hP⟩, hsg, htx, hru, hwd, hnw, hst, hsh, hla⟩ := hI'
  show Ou 184 0 [vR 8 0, vI k] [] g r (fun xx g1 r1 => xx = some (vI (msS g k)) ∧ r1 = r ∧ F8 g g1)
  obtain ⟨sg1, sg2, sg3⟩ := hI.2.1
  obtain ⟨tx1, tx2, tx3, tx4⟩ := hI.2.2.1
  have ru0 : g 7 0 10 = g 8 0 8 := hI.2.2.2.1.1.1
  have ru1 := hI.2.2.2.1.2.1.1
  have wd0 : g 1 0 1 = g 8 0 14 := hI.2.2.2.2.1.1.1
  have wd1 := hI.2.2.2.2.1.2.1.1
  have wd2 := hI.2.2.2.2.1.2.2
  have nw0 : g 0 0 0 = g 27 0 8 := hI.2.2.2.2.2.1.1.1
  have nw1 : g 0 0 1 = g 28 0 8 := hI.2.2.2.2.2.1.1.2.1
  have nw2 := hI.2.2.2.2.2.1.2.1
  have nw3 := hI.2.2.2.2.2.1.2.2.1
  have st0 := hI.2.2.2.2.2.2.1.1
  have st1 := hI.2.2.2.2.2.2.1.2.1
  have st2 := hI.2.2.2.2.2.2.1.2.2.1
  have la0 : g 7 0 13 = g 8 0 4 := hI.2.2.2.2.2.2.2.2
  refine o_iload_n (n := 1) rfl rfl rfl ?_
  refine o_iconst (n := 2) rfl rfl ?_
  refine o_icmp_ne (n := 5) (t := 14) rfl rfl rfl (fun k2 => ?_) (fun k2 => ?_)
  · refine o_aload_n (n := 15) rfl rfl rfl ?_
    refine o_iload_n (n := 16) rfl rfl rfl ?_
    refine o_invi (n := 19) rfl rfl rfl rfl rfl rfl rfl rfl rfl rfl (c8_isStage _ (by omega) (by omega)) ?_
    refine o_ifb_eq (n := 22) (t := 30) rfl rfl rfl (fun k19 => ?_) (fun k19 => ?_)
    · refine o_bipush (n := 32) rfl rfl ?_
      refine o_iret rfl rfl ?_
      first
        | (exfalso; omega; done)
        | (have hf := f1
           exact ⟨rfl, rfl, hf⟩)
        | (refine ⟨congrArg (fun z => some (vI z)) ?_, rfl, F8_refl g⟩
           unfold msS
           rw [cif_f (by omega), cif_f (by omega)])
    · refine o_aload_n (n := 23) rfl rfl rfl ?_
      refine o_iload_n (n := 24) rfl rfl rfl ?_
      obtain ⟨v1, g1, r1, hc, hv1, hr1, f1⟩ := rt_ex (c8_measureBy hI (d := k) (by omega) (by omega) (hst.2.2.2 k (by omega) (by omega)).2.2.1)
      subst hv1
      subst hr1
      rw [show msu g k = msS g k from ((cif_f (by omega)).trans (cif_t (by omega))).symm] at hc
      refine o_invi (n := 27) rfl rfl rfl rfl rfl rfl rfl rfl rfl rfl (hc) ?_
      refine o_goto (t := 32) rfl rfl ?_
      refine o_iret rfl rfl ?_
      first
        | (exfalso; omega; done)
        | (have hf := f1
           exact ⟨rfl, rfl, hf⟩)
        | (refine ⟨congrArg (fun z => some (vI z)) ?_, rfl, F8_refl g⟩
           unfold msS
           rw [cif_f (by omega), cif_f (by omega)])
  · refine o_aload_n (n := 6) rfl rfl rfl ?_
    refine o_bipush (n := 8) rfl rfl ?_
    obtain ⟨v1, g1, r1, hc, hv1, hr1, f1⟩ := rt_ex (c8_measureBy hI (d := 8) (by omega) (by omega) hnw.2)
    subst hv1
    subst hr1
    rw [show msu g 8 = msS g k from (cif_t (by omega)).symm] at hc
    refine o_invi (n := 11) rfl rfl rfl rfl rfl rfl rfl rfl rfl rfl (hc) ?_
    refine o_goto (t := 32) rfl rfl ?_
    refine o_iret rfl rfl ?_
    first
      | (exfalso; omega; done)
      | (have hf := f1
         exact ⟨rfl, rfl, hf⟩)
      | (refine ⟨congrArg (fun z => some (vI z)) ?_, rfl, F8_refl g⟩
         unfold msS
         rw [cif_f (by omega), cif_f (by omega)])
theorem p_measure (k : Int) : Pr 72 184 [vI k] := pr_of (C7_measure k) (C8_measure k) (msS_m k)
