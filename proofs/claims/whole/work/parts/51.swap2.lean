/-! swap, both. Written by wip/gen/gen51.py -/
theorem FB8_F {g g1 : GI} (f : F8 g g1) (d st : Int) : FB8 g1 d st = FB8 g d st := FB8_m d st g g1 (fun k _ a b e => f k a b e)
section SWAP2
variable {c : Int} {g h r g0 r0 : GI} {v w : Int}
theorem c7_swap (p : Int) (hI : Iv c g h r) : Ou 64 0 (am_ini 64 [vR 7 0, vI p]) [] g r (fun x g1 r1 => x = some (vI (swV h p)) ∧ Fm g g1 ∧ Iv (c + 1) g1 (SwH h p) r1) := by
  show Ou 64 0 [vR 7 0, vI p, vN, vN, vN, vN, vN] [] g r _
  obtain ⟨⟨hS, hR, h6, hP⟩, hsg, htx, hru, hwd, hnw, hst, hsh, hla⟩ := id hI
  obtain ⟨sg1, sg2, sg3⟩ := hI.2.1
  obtain ⟨tx1, tx2, tx3, tx4⟩ := hI.2.2.1
  have ru0 : g 7 0 10 = h 8 0 8 := hI.2.2.2.1.1.1
  have ru1 := hI.2.2.2.1.2.1.1
  have wd0 : g 1 0 1 = h 8 0 14 := hI.2.2.2.2.1.1.1
  have wd1 := hI.2.2.2.2.1.2.1.1
  have wd2 := hI.2.2.2.2.1.2.2
  have nw0 : g 0 0 0 = h 27 0 8 := hI.2.2.2.2.2.1.1.1
  have nw1 : g 0 0 1 = h 28 0 8 := hI.2.2.2.2.2.1.1.2.1
  have nw2 := hI.2.2.2.2.2.1.2.1
  have nw3 := hI.2.2.2.2.2.1.2.2.1
  have st0 := hI.2.2.2.2.2.2.1.1
  have st1 := hI.2.2.2.2.2.2.1.2.1
  have st2 := hI.2.2.2.2.2.2.1.2.2.1
  have la0 : g 7 0 13 = h 8 0 4 := hI.2.2.2.2.2.2.2.2
  have e7 : p ≤ h 8 0 19 → am_and (ab (g 7 0 10)) (am_xor (rb (rm7 g r) p.toNat 0 0) (-1)) = st8 h p := fun hp => by
    rw [lb_rb, and_not0 (ab_inI (by omega) (by omega))]; exact st78 hst ru0 hp
  refine o_iload_n (n := 1) rfl rfl rfl ?_
  refine o_if_lt (n := 4) (t := 14) rfl rfl rfl (fun q1 => ?_) (fun q1 => ?_)
  · refine o_bipush (n := 16) rfl rfl ?_
    refine o_iret rfl rfl ?_
    first
      | (exfalso; omega; done)
      | (have n3 : sv3 h p ≠ 0 := by omega
         have n4 : sv4 h p ≠ 0 := by omega
         have ok : swok h p := ⟨by omega, n3, n4⟩
         refine ⟨?_, Fm_tr (Fm_tr (Fm_J f1) (Fm_J f2)) (Fm_S (g := g2) (r := r) (p := p) (v := sv3 h p) (w := sv4 h p)), ?_⟩
         · unfold swV; rw [cif_t (by omega), cif_t ⟨n3, n4⟩]
         · unfold SwH; rw [cif_t ok]
           have := Iv_1 (Iv_swap (p := p) hI2 (by omega) (by omega) rfl rfl n3 n4)
           unfold Swg Swr at this
           rw [f2.2.1 15 (by decide), f1.2.1 15 (by decide)] at this
           exact this)
      | (have n4 : sv4 h p = 0 := by omega
         refine ⟨?_, Fm_tr (Fm_J f1) (Fm_J f2), ?_⟩
         · unfold swV; rw [cif_t (by omega), cif_f (fun z => z.2 n4)]
         · unfold SwH; rw [cif_f (fun z => z.2.2 n4)]; exact Iv_1 hI2)
      | (have n3 : sv3 h p = 0 := by omega
         refine ⟨?_, Fm_J f1, ?_⟩
         · unfold swV; rw [cif_t (by omega), cif_f (fun z => z.1 n3)]
         · unfold SwH; rw [cif_f (fun z => z.2.1 n3)]; exact Iv_1 hI1)
      | (refine ⟨?_, Fm_refl g, ?_⟩
         · unfold swV; rw [cif_f (by omega)]
         · unfold SwH; rw [cif_f (fun z => by have := z.1; omega)]; exact Iv_1 hI)
  · refine o_iload_n (n := 5) rfl rfl rfl ?_
    refine o_aload_n (n := 6) rfl rfl rfl ?_
    refine o_geti (n := 9) rfl rfl rfl rfl rfl ?_
    refine o_iconst (n := 10) rfl rfl ?_
    refine o_isub (n := 11) rfl rfl (by omega) ?_
    refine o_icmp_lt (n := 14) (t := 17) rfl rfl rfl (fun q11 => ?_) (fun q11 => ?_)
    · refine o_aload_n (n := 18) rfl rfl rfl ?_
      refine of_7_3 (n := 21) hS rfl rfl ?_
      refine o_iload_n (n := 22) rfl rfl rfl ?_
      refine o_ra15 (n := 23) hR rfl rfl (by omega) (by omega) (fun hA22 hB22 => ?_)
      refine o_astore_2 (n := 24) rfl rfl rfl ?_
      refine o_aload_n (n := 25) rfl rfl rfl ?_
      refine of_7_3 (n := 28) hS rfl rfl ?_
      refine o_iload_n (n := 29) rfl rfl rfl ?_
      refine o_iconst (n := 30) rfl rfl ?_
      refine o_iadd (n := 31) rfl rfl (by omega) ?_
      refine o_ra15 (n := 32) hR rfl rfl (by omega) (by omega) (fun hA31 hB31 => ?_)
      refine o_astore_3 (n := 33) rfl rfl rfl ?_
      refine o_aload_n (n := 34) rfl rfl rfl ?_
      refine o_invi (n := 37) rfl rfl rfl rfl rfl rfl rfl rfl rfl rfl (c7_allBits (by omega) (by omega)) ?_
      refine o_aload_n (n := 38) rfl rfl rfl ?_
      refine o_iload_n (n := 39) rfl rfl rfl ?_
      refine o_invi (n := 42) rfl rfl rfl rfl rfl rfl rfl rfl rfl rfl (c7_removedBefore hS hR _ (by omega) (by omega)) ?_
      refine o_iconst (n := 43) rfl rfl ?_
      refine o_ixor (n := 44) rfl rfl ?_
      refine o_iand (n := 45) rfl rfl ?_
      rw [e7 (by omega)]
      refine o_istore_4 (n := 47) rfl rfl rfl ?_
      refine o_aload_n (n := 48) rfl rfl rfl ?_
      refine o_aload_n (n := 49) rfl rfl rfl ?_
      refine of_4_0 (n := 52) hS rfl rfl (by omega) (by omega) ?_
      refine o_iload (n := 54) rfl rfl rfl ?_
      have hsk := hst.2.2.2 (p + 1) (by omega) (by omega)
      obtain ⟨g1, r1, hc1, f1⟩ := c7_fallG hI (e := 2 + r 15 0 (p + 1)) (st := st8 h p) (by omega) (by omega) hsk.2.2.1 hsk.2.1
      have hc1 : Rt 102 [vR 7 0, vR 0 (2 + r 15 0 (p + 1)), vI (st8 h p)] g r (some (vI (sv3 h p))) g1 r1 := hc1
      have hI1 := Iv_GJ f1 hI
      have hS := hI1.1.1
      refine o_invi (n := 57) rfl rfl rfl rfl rfl rfl rfl rfl rfl rfl (hc1) ?_
      refine o_istore_5 (n := 59) rfl rfl rfl ?_
      refine o_iload (n := 61) rfl rfl rfl ?_
      refine o_if_ne (n := 64) (t := 67) rfl rfl rfl (fun q61 => ?_) (fun q61 => ?_)
      · refine o_aload_n (n := 68) rfl rfl rfl ?_
        refine o_aload_n (n := 69) rfl rfl rfl ?_
        refine of_4_0 (n := 72) hS rfl rfl (by omega) (by omega) ?_
        refine o_iload (n := 74) rfl rfl rfl ?_
        refine o_iload (n := 76) rfl rfl rfl ?_
        refine o_iconst (n := 77) rfl rfl ?_
        refine o_ixor (n := 78) rfl rfl ?_
        refine o_iand (n := 79) rfl rfl ?_
        have hsj := hI1.2.2.2.2.2.2.1.2.2.2 p (by omega) (by omega)
        rw [f1.2.1 15 (by decide)] at hsj
        obtain ⟨g2, r2, hc2, f2⟩ := c7_fallG hI1 (e := 2 + r 15 0 p) (st := am_and (st8 h p) (am_xor (sv3 h p) (-1))) (by omega) (by omega) hsj.2.2.1 hsj.2.1
        have hc2 : Rt 102 [vR 7 0, vR 0 (2 + r 15 0 p), vI (am_and (st8 h p) (am_xor (sv3 h p) (-1)))] g1 r1 (some (vI (sv4 h p))) g2 r2 := hc2
        have hI2 := Iv_GJ f2 hI1
        have hS := hI2.1.1
        refine o_invi (n := 82) rfl rfl rfl rfl rfl rfl rfl rfl rfl rfl (hc2) ?_
        refine o_istore_6 (n := 84) rfl rfl rfl ?_
        refine o_iload (n := 86) rfl rfl rfl ?_
        refine o_if_ne (n := 89) (t := 92) rfl rfl rfl (fun q86 => ?_) (fun q86 => ?_)
        · refine o_aload_n (n := 93) rfl rfl rfl ?_
          refine o_iload (n := 95) rfl rfl rfl ?_
          refine o_puti (n := 98) rfl rfl rfl (ok_4 (by omega) (by omega)) rfl ?_
          refine o_aload_n (n := 99) rfl rfl rfl ?_
          refine o_iload (n := 101) rfl rfl rfl ?_
          refine o_puti (n := 104) rfl rfl rfl (ok_4 (by omega) (by omega)) rfl ?_
          refine o_aload_n (n := 105) rfl rfl rfl ?_
          refine of_7_3 (n := 108) hS rfl rfl ?_
          refine o_iload_n (n := 109) rfl rfl rfl ?_
          refine o_aload_n (n := 110) rfl rfl rfl ?_
          refine o_rast (n := 111) (L := 8) rfl rfl rfl rfl rfl rfl (by omega) (by omega) (ok_4 (by omega) (by omega)) ?_
          refine o_aload_n (n := 112) rfl rfl rfl ?_
          refine of_7_3 (n := 115) hS rfl rfl ?_
          refine o_iload_n (n := 116) rfl rfl rfl ?_
          refine o_iconst (n := 117) rfl rfl ?_
          refine o_iadd (n := 118) rfl rfl (by omega) ?_
          refine o_aload_n (n := 119) rfl rfl rfl ?_
          refine o_rast (n := 120) (L := 8) rfl rfl rfl rfl rfl rfl (by omega) (by omega) (ok_4 (by omega) (by omega)) ?_
          refine o_iload (n := 122) rfl rfl rfl ?_
          refine o_iret rfl rfl ?_
          first
            | (exfalso; omega; done)
            | (have n3 : sv3 h p ≠ 0 := by omega
               have n4 : sv4 h p ≠ 0 := by omega
               have ok : swok h p := ⟨by omega, n3, n4⟩
               refine ⟨?_, Fm_tr (Fm_tr (Fm_J f1) (Fm_J f2)) (Fm_S (g := g2) (r := r) (p := p) (v := sv3 h p) (w := sv4 h p)), ?_⟩
               · unfold swV; rw [cif_t (by omega), cif_t ⟨n3, n4⟩]
               · unfold SwH; rw [cif_t ok]
                 have := Iv_1 (Iv_swap (p := p) hI2 (by omega) (by omega) rfl rfl n3 n4)
                 unfold Swg Swr at this
                 rw [f2.2.1 15 (by decide), f1.2.1 15 (by decide)] at this
                 exact this)
            | (have n4 : sv4 h p = 0 := by omega
               refine ⟨?_, Fm_tr (Fm_J f1) (Fm_J f2), ?_⟩
               · unfold swV; rw [cif_t (by omega), cif_f (fun z => z.2 n4)]
               · unfold SwH; rw [cif_f (fun z => z.2.2 n4)]; exact Iv_1 hI2)
            | (have n3 : sv3 h p = 0 := by omega
               refine ⟨?_, Fm_J f1, ?_⟩
               · unfold swV; rw [cif_t (by omega), cif_f (fun z => z.1 n3)]
               · unfold SwH; rw [cif_f (fun z => z.2.1 n3)]; exact Iv_1 hI1)
            | (refine ⟨?_, Fm_refl g, ?_⟩
               · unfold swV; rw [cif_f (by omega)]
               · unfold SwH; rw [cif_f (fun z => by have := z.1; omega)]; exact Iv_1 hI)
        · refine o_bipush (n := 91) rfl rfl ?_
          refine o_iret rfl rfl ?_
          first
            | (exfalso; omega; done)
            | (have n3 : sv3 h p ≠ 0 := by omega
               have n4 : sv4 h p ≠ 0 := by omega
               have ok : swok h p := ⟨by omega, n3, n4⟩
               refine ⟨?_, Fm_tr (Fm_tr (Fm_J f1) (Fm_J f2)) (Fm_S (g := g2) (r := r) (p := p) (v := sv3 h p) (w := sv4 h p)), ?_⟩
               · unfold swV; rw [cif_t (by omega), cif_t ⟨n3, n4⟩]
               · unfold SwH; rw [cif_t ok]
                 have := Iv_1 (Iv_swap (p := p) hI2 (by omega) (by omega) rfl rfl n3 n4)
                 unfold Swg Swr at this
                 rw [f2.2.1 15 (by decide), f1.2.1 15 (by decide)] at this
                 exact this)
            | (have n4 : sv4 h p = 0 := by omega
               refine ⟨?_, Fm_tr (Fm_J f1) (Fm_J f2), ?_⟩
               · unfold swV; rw [cif_t (by omega), cif_f (fun z => z.2 n4)]
               · unfold SwH; rw [cif_f (fun z => z.2.2 n4)]; exact Iv_1 hI2)
            | (have n3 : sv3 h p = 0 := by omega
               refine ⟨?_, Fm_J f1, ?_⟩
               · unfold swV; rw [cif_t (by omega), cif_f (fun z => z.1 n3)]
               · unfold SwH; rw [cif_f (fun z => z.2.1 n3)]; exact Iv_1 hI1)
            | (refine ⟨?_, Fm_refl g, ?_⟩
               · unfold swV; rw [cif_f (by omega)]
               · unfold SwH; rw [cif_f (fun z => by have := z.1; omega)]; exact Iv_1 hI)
      · refine o_bipush (n := 66) rfl rfl ?_
        refine o_iret rfl rfl ?_
        first
          | (exfalso; omega; done)
          | (have n3 : sv3 h p ≠ 0 := by omega
             have n4 : sv4 h p ≠ 0 := by omega
             have ok : swok h p := ⟨by omega, n3, n4⟩
             refine ⟨?_, Fm_tr (Fm_tr (Fm_J f1) (Fm_J f2)) (Fm_S (g := g2) (r := r) (p := p) (v := sv3 h p) (w := sv4 h p)), ?_⟩
             · unfold swV; rw [cif_t (by omega), cif_t ⟨n3, n4⟩]
             · unfold SwH; rw [cif_t ok]
               have := Iv_1 (Iv_swap (p := p) hI2 (by omega) (by omega) rfl rfl n3 n4)
               unfold Swg Swr at this
               rw [f2.2.1 15 (by decide), f1.2.1 15 (by decide)] at this
               exact this)
          | (have n4 : sv4 h p = 0 := by omega
             refine ⟨?_, Fm_tr (Fm_J f1) (Fm_J f2), ?_⟩
             · unfold swV; rw [cif_t (by omega), cif_f (fun z => z.2 n4)]
             · unfold SwH; rw [cif_f (fun z => z.2.2 n4)]; exact Iv_1 hI2)
          | (have n3 : sv3 h p = 0 := by omega
             refine ⟨?_, Fm_J f1, ?_⟩
             · unfold swV; rw [cif_t (by omega), cif_f (fun z => z.1 n3)]
             · unfold SwH; rw [cif_f (fun z => z.2.1 n3)]; exact Iv_1 hI1)
          | (refine ⟨?_, Fm_refl g, ?_⟩
             · unfold swV; rw [cif_f (by omega)]
             · unfold SwH; rw [cif_f (fun z => by have := z.1; omega)]; exact Iv_1 hI)
    · refine o_bipush (n := 16) rfl rfl ?_
      refine o_iret rfl rfl ?_
      first
        | (exfalso; omega; done)
        | (have n3 : sv3 h p ≠ 0 := by omega
           have n4 : sv4 h p ≠ 0 := by omega
           have ok : swok h p := ⟨by omega, n3, n4⟩
           refine ⟨?_, Fm_tr (Fm_tr (Fm_J f1) (Fm_J f2)) (Fm_S (g := g2) (r := r) (p := p) (v := sv3 h p) (w := sv4 h p)), ?_⟩
           · unfold swV; rw [cif_t (by omega), cif_t ⟨n3, n4⟩]
           · unfold SwH; rw [cif_t ok]
             have := Iv_1 (Iv_swap (p := p) hI2 (by omega) (by omega) rfl rfl n3 n4)
             unfold Swg Swr at this
             rw [f2.2.1 15 (by decide), f1.2.1 15 (by decide)] at this
             exact this)
        | (have n4 : sv4 h p = 0 := by omega
           refine ⟨?_, Fm_tr (Fm_J f1) (Fm_J f2), ?_⟩
           · unfold swV; rw [cif_t (by omega), cif_f (fun z => z.2 n4)]
           · unfold SwH; rw [cif_f (fun z => z.2.2 n4)]; exact Iv_1 hI2)
        | (have n3 : sv3 h p = 0 := by omega
           refine ⟨?_, Fm_J f1, ?_⟩
           · unfold swV; rw [cif_t (by omega), cif_f (fun z => z.1 n3)]
           · unfold SwH; rw [cif_f (fun z => z.2.1 n3)]; exact Iv_1 hI1)
        | (refine ⟨?_, Fm_refl g, ?_⟩
           · unfold swV; rw [cif_f (by omega)]
           · unfold SwH; rw [cif_f (fun z => by have := z.1; omega)]; exact Iv_1 hI)
theorem l8_swl {p st : Int} (hS : am_St r) (p0 : 0 ≤ p) (p1 : p < 7) : ∀ (m : Nat) (k : Int) (t : AV), (0 ≤ k) → (k + m = 36) → Ou 166 65 [vR 8 0, vI p, vI st, vI v, vI w, vI k, t] [] (swe g p k) r (Rq (some (vI v)) (swf g p v w) r) := by
  intro m
  induction m with
  | zero =>
    intro k t i0 i1
    have hk : k = 36 := by omega
    subst hk
    refine o_iload (n := 67) rfl rfl rfl ?_
    refine o_bipush (n := 69) rfl rfl ?_
    refine o_icmp_ge (n := 72) (t := 136) rfl rfl rfl (fun q69 => ?_) (fun q69 => (by exfalso; omega))
    refine o_aload_n (n := 137) rfl rfl rfl ?_
    refine of_8_17 (n := 140) hS rfl rfl ?_
    refine o_iload_n (n := 141) rfl rfl rfl ?_
    refine o_iald (n := 142) (L := 9) rfl rfl rfl rfl rfl (by omega) (by omega) ?_
    rw [swe_k (by decide)]
    refine o_istore_5 (n := 144) rfl rfl rfl ?_
    refine o_aload_n (n := 145) rfl rfl rfl ?_
    refine of_8_18 (n := 148) hS rfl rfl ?_
    refine o_iload_n (n := 149) rfl rfl rfl ?_
    refine o_iald (n := 150) (L := 9) rfl rfl rfl rfl rfl (by omega) (by omega) ?_
    rw [swe_k (by decide)]
    refine o_istore_6 (n := 152) rfl rfl rfl ?_
    refine o_aload_n (n := 153) rfl rfl rfl ?_
    refine of_8_17 (n := 156) hS rfl rfl ?_
    refine o_iload_n (n := 157) rfl rfl rfl ?_
    refine o_aload_n (n := 158) rfl rfl rfl ?_
    refine of_8_17 (n := 161) hS rfl rfl ?_
    refine o_iload_n (n := 162) rfl rfl rfl ?_
    refine o_iconst (n := 163) rfl rfl ?_
    refine o_iadd (n := 164) rfl rfl (by omega) ?_
    refine o_iald (n := 165) (L := 9) rfl rfl rfl rfl rfl (by omega) (by omega) ?_
    rw [swe_k (by decide)]
    refine o_iast (n := 166) (L := 9) rfl rfl rfl rfl rfl (by omega) (by omega) ?_
    refine o_aload_n (n := 167) rfl rfl rfl ?_
    refine of_8_18 (n := 170) hS rfl rfl ?_
    refine o_iload_n (n := 171) rfl rfl rfl ?_
    refine o_aload_n (n := 172) rfl rfl rfl ?_
    refine of_8_18 (n := 175) hS rfl rfl ?_
    refine o_iload_n (n := 176) rfl rfl rfl ?_
    refine o_iconst (n := 177) rfl rfl ?_
    refine o_iadd (n := 178) rfl rfl (by omega) ?_
    refine o_iald (n := 179) (L := 9) rfl rfl rfl rfl rfl (by omega) (by omega) ?_
    rw [gset_k rfl, swe_k (by decide)]
    refine o_iast (n := 180) (L := 9) rfl rfl rfl rfl rfl (by omega) (by omega) ?_
    refine o_aload_n (n := 181) rfl rfl rfl ?_
    refine of_8_17 (n := 184) hS rfl rfl ?_
    refine o_iload_n (n := 185) rfl rfl rfl ?_
    refine o_iconst (n := 186) rfl rfl ?_
    refine o_iadd (n := 187) rfl rfl (by omega) ?_
    refine o_iload (n := 189) rfl rfl rfl ?_
    refine o_iast (n := 190) (L := 9) rfl rfl rfl rfl rfl (by omega) (by omega) ?_
    refine o_aload_n (n := 191) rfl rfl rfl ?_
    refine of_8_18 (n := 194) hS rfl rfl ?_
    refine o_iload_n (n := 195) rfl rfl rfl ?_
    refine o_iconst (n := 196) rfl rfl ?_
    refine o_iadd (n := 197) rfl rfl (by omega) ?_
    refine o_iload (n := 199) rfl rfl rfl ?_
    refine o_iast (n := 200) (L := 9) rfl rfl rfl rfl rfl (by omega) (by omega) ?_
    refine o_aload_n (n := 201) rfl rfl rfl ?_
    refine of_8_20 (n := 204) hS rfl rfl ?_
    refine o_iload_n (n := 205) rfl rfl rfl ?_
    refine o_iload_n (n := 206) rfl rfl rfl ?_
    refine o_iast (n := 207) (L := 8) rfl rfl rfl rfl rfl (by omega) (by omega) ?_
    refine o_aload_n (n := 208) rfl rfl rfl ?_
    refine of_8_20 (n := 211) hS rfl rfl ?_
    refine o_iload_n (n := 212) rfl rfl rfl ?_
    refine o_iconst (n := 213) rfl rfl ?_
    refine o_iadd (n := 214) rfl rfl (by omega) ?_
    refine o_iload (n := 216) rfl rfl rfl ?_
    refine o_iast (n := 217) (L := 8) rfl rfl rfl rfl rfl (by omega) (by omega) ?_
    refine o_iload_n (n := 218) rfl rfl rfl ?_
    refine o_iret rfl rfl ?_
    first | (exfalso; omega; done) | exact ⟨rfl, rfl, rfl⟩
  | succ m ih =>
    intro k t i0 i1
    refine o_iload (n := 67) rfl rfl rfl ?_
    refine o_bipush (n := 69) rfl rfl ?_
    refine o_icmp_ge (n := 72) (t := 136) rfl rfl rfl (fun q69 => (by exfalso; omega)) (fun q69 => ?_)
    refine o_aload_n (n := 73) rfl rfl rfl ?_
    refine of_8_16 (n := 76) hS rfl rfl ?_
    refine o_bipush (n := 78) rfl rfl ?_
    refine o_iload_n (n := 79) rfl rfl rfl ?_
    refine o_imul (n := 80) rfl rfl (by omega) ?_
    refine o_iload (n := 82) rfl rfl rfl ?_
    refine o_iadd (n := 83) rfl rfl (by omega) ?_
    refine o_iald (n := 84) (L := 324) rfl rfl rfl rfl rfl (by omega) (by omega) ?_
    refine o_istore_6 (n := 86) rfl rfl rfl ?_
    refine o_aload_n (n := 87) rfl rfl rfl ?_
    refine of_8_16 (n := 90) hS rfl rfl ?_
    refine o_bipush (n := 92) rfl rfl ?_
    refine o_iload_n (n := 93) rfl rfl rfl ?_
    refine o_imul (n := 94) rfl rfl (by omega) ?_
    refine o_iload (n := 96) rfl rfl rfl ?_
    refine o_iadd (n := 97) rfl rfl (by omega) ?_
    refine o_aload_n (n := 98) rfl rfl rfl ?_
    refine of_8_16 (n := 101) hS rfl rfl ?_
    refine o_bipush (n := 103) rfl rfl ?_
    refine o_iload_n (n := 104) rfl rfl rfl ?_
    refine o_imul (n := 105) rfl rfl (by omega) ?_
    refine o_bipush (n := 107) rfl rfl ?_
    refine o_iadd (n := 108) rfl rfl (by omega) ?_
    refine o_iload (n := 110) rfl rfl rfl ?_
    refine o_iadd (n := 111) rfl rfl (by omega) ?_
    refine o_iald (n := 112) (L := 324) rfl rfl rfl rfl rfl (by omega) (by omega) ?_
    refine o_iast (n := 113) (L := 324) rfl rfl rfl rfl rfl (by omega) (by omega) ?_
    refine o_aload_n (n := 114) rfl rfl rfl ?_
    refine of_8_16 (n := 117) hS rfl rfl ?_
    refine o_bipush (n := 119) rfl rfl ?_
    refine o_iload_n (n := 120) rfl rfl rfl ?_
    refine o_imul (n := 121) rfl rfl (by omega) ?_
    refine o_bipush (n := 123) rfl rfl ?_
    refine o_iadd (n := 124) rfl rfl (by omega) ?_
    refine o_iload (n := 126) rfl rfl rfl ?_
    refine o_iadd (n := 127) rfl rfl (by omega) ?_
    refine o_iload (n := 129) rfl rfl rfl ?_
    refine o_iast (n := 130) (L := 324) rfl rfl rfl rfl rfl (by omega) (by omega) ?_
    refine o_iinc_5 (n := 133) rfl rfl rfl (by omega) ?_
    refine o_goto (t := 65) rfl rfl ?_
    rw [swe_s i0 (by omega)]
    exact ih (k + 1) _ (by omega) (by omega)
theorem c8_swap (p : Int) (hI : Iv c g0 g r0) (hS : am_St r) : Ou 166 0 (am_ini 166 [vR 8 0, vI p]) [] g r (fun x g1 r1 => x = some (vI (swV g p)) ∧ r1 = r ∧ FH (SwH g p) g g1) := by
  show Ou 166 0 [vR 8 0, vI p, vN, vN, vN, vN, vN] [] g r _
  obtain ⟨⟨hS0, hR, h6, hP⟩, hsg, htx, hru, hwd, hnw, hst, hsh, hla⟩ := id hI
  obtain ⟨sg1, sg2, sg3⟩ := hI.2.1
  obtain ⟨tx1, tx2, tx3, tx4⟩ := hI.2.2.1
  have ru0 : g0 7 0 10 = g 8 0 8 := hI.2.2.2.1.1.1
  have ru1 := hI.2.2.2.1.2.1.1
  have wd0 : g0 1 0 1 = g 8 0 14 := hI.2.2.2.2.1.1.1
  have wd1 := hI.2.2.2.2.1.2.1.1
  have wd2 := hI.2.2.2.2.1.2.2
  have nw0 : g0 0 0 0 = g 27 0 8 := hI.2.2.2.2.2.1.1.1
  have nw1 : g0 0 0 1 = g 28 0 8 := hI.2.2.2.2.2.1.1.2.1
  have nw2 := hI.2.2.2.2.2.1.2.1
  have nw3 := hI.2.2.2.2.2.1.2.2.1
  have st0 := hI.2.2.2.2.2.2.1.1
  have st1 := hI.2.2.2.2.2.2.1.2.1
  have st2 := hI.2.2.2.2.2.2.1.2.2.1
  have la0 : g0 7 0 13 = g 8 0 4 := hI.2.2.2.2.2.2.2.2
  refine o_iload_n (n := 1) rfl rfl rfl ?_
  refine o_i2l (n := 2) rfl rfl ?_
  refine o_lconst (n := 3) rfl rfl ?_
  refine o_aload_n (n := 4) rfl rfl rfl ?_
  refine o_geti (n := 7) rfl rfl rfl rfl rfl ?_
  refine o_iconst (n := 8) rfl rfl ?_
  refine o_isub (n := 9) rfl rfl (by omega) ?_
  refine o_i2l (n := 10) rfl rfl ?_
  refine o_invsi (n := 13) rfl rfl rfl rfl rfl rfl (c8_in _ _ _) ?_
  refine o_ifb_ne (n := 16) (t := 19) rfl rfl rfl (fun q13 => ?_) (fun q13 => ?_)
  · refine o_aload_n (n := 20) rfl rfl rfl ?_
    refine o_iload_n (n := 21) rfl rfl rfl ?_
    refine o_invi (n := 24) rfl rfl rfl rfl rfl rfl rfl rfl rfl rfl (c8_leftBehind hS (by omega) (by omega) _ (by omega) (by omega)) ?_
    refine o_istore_2 (n := 25) rfl rfl rfl ?_
    refine o_aload_n (n := 26) rfl rfl rfl ?_
    refine o_iload_n (n := 27) rfl rfl rfl ?_
    refine o_iconst (n := 28) rfl rfl ?_
    refine o_iadd (n := 29) rfl rfl (by omega) ?_
    refine o_iload_n (n := 30) rfl rfl rfl ?_
    have hsk := hst.2.2.2 (p + 1) (by omega) (by omega)
    obtain ⟨g1, hc1, f1⟩ := c8_fallG hI hS (d := p + 1) (st := st8 g p) (by omega) (by omega) hsk.2.2.1 (Vr8_E (p + 1))
    have hc1 : Rt 141 [vR 8 0, vI (p + 1), vI (st8 g p)] g r (some (vI (sv3 g p))) g1 r := hc1
    have hI1 := Iv_Ag (FM_Ag (FM_8 f1)) hI
    refine o_invi (n := 33) rfl rfl rfl rfl rfl rfl rfl rfl rfl rfl (hc1) ?_
    refine o_istore_3 (n := 34) rfl rfl rfl ?_
    refine o_iload_n (n := 35) rfl rfl rfl ?_
    refine o_if_ne (n := 38) (t := 42) rfl rfl rfl (fun q35 => ?_) (fun q35 => ?_)
    · refine o_aload_n (n := 43) rfl rfl rfl ?_
      refine o_iload_n (n := 44) rfl rfl rfl ?_
      refine o_iload_n (n := 45) rfl rfl rfl ?_
      refine o_iload_n (n := 46) rfl rfl rfl ?_
      refine o_iconst (n := 47) rfl rfl ?_
      refine o_ixor (n := 48) rfl rfl ?_
      refine o_iand (n := 49) rfl rfl ?_
      have hsj := hI1.2.2.2.2.2.2.1.2.2.2 p (by omega) (by rw [f1 8 (by decide) (by decide) (by decide)]; omega)
      obtain ⟨g2, hc2, f2⟩ := c8_fallG hI1 hS (d := p) (st := am_and (st8 g p) (am_xor (sv3 g p) (-1))) (by omega) (by omega) hsj.2.2.1 (Vr8_E p)
      have e2 : FB (g1 27 0 p) (g1 28 0 p) (E8 g1 p) (g1 8 0 5) (g1 8 0 8) (L8 g1) (W8 g1) (am_and (st8 g p) (am_xor (sv3 g p) (-1))) = sv4 g p := FB8_F f1 p _
      rw [e2] at hc2
      refine o_invi (n := 52) rfl rfl rfl rfl rfl rfl rfl rfl rfl rfl (hc2) ?_
      refine o_istore_4 (n := 54) rfl rfl rfl ?_
      refine o_iload (n := 56) rfl rfl rfl ?_
      refine o_if_ne (n := 59) (t := 62) rfl rfl rfl (fun q56 => ?_) (fun q56 => ?_)
      · refine o_iconst (n := 63) rfl rfl ?_
        refine o_istore_5 (n := 65) rfl rfl rfl ?_
        first
          | (exfalso; omega; done)
          | (have n3 : sv3 g p ≠ 0 := by omega
             have n4 : sv4 g p ≠ 0 := by omega
             have f3 := F8_tr f1 f2
             have L := l8_swl (g := g2) (v := sv3 g p) (w := sv4 g p) (p := p) (st := st8 g p) hS (by omega) (by omega) 36 0 vN (by omega) (by omega)
             rw [swe_0] at L
             obtain ⟨n9, v9, g9, r9, w1, w2, w3, w4⟩ := L
             subst w2; subst w3; subst w4
             refine ⟨n9, _, _, _, w1, ?_, rfl, ?_⟩
             · unfold swV; rw [cif_t (by omega), cif_t ⟨n3, n4⟩]
             · unfold SwH; rw [cif_t ⟨by omega, n3, n4⟩]
               refine ⟨swf_c (by omega) (by omega) (FM_Ag (FM_8 f3)), fun k hk => ?_⟩
               unfold isM at hk
               rw [swf_k (by omega)]
               exact f3 k (by omega) (by omega) (by omega))
      · refine o_bipush (n := 61) rfl rfl ?_
        refine o_iret rfl rfl ?_
        first
          | (exfalso; omega; done)
          | (have n4 : sv4 g p = 0 := by omega
             have f3 := F8_tr f1 f2
             refine ⟨?_, rfl, ?_⟩
             · unfold swV; rw [cif_t (by omega), cif_f (fun z => z.2 n4)]
             · unfold SwH; rw [cif_f (fun z => z.2.2 n4)]; exact ⟨FM_Ag (FM_8 f3), fun k hk => f3 k (by unfold isM at hk; omega) (by unfold isM at hk; omega) (by unfold isM at hk; omega)⟩)
          | (have n3 : sv3 g p = 0 := by omega
             refine ⟨?_, rfl, ?_⟩
             · unfold swV; rw [cif_t (by omega), cif_f (fun z => z.1 n3)]
             · unfold SwH; rw [cif_f (fun z => z.2.1 n3)]; exact ⟨FM_Ag (FM_8 f1), fun k hk => f1 k (by unfold isM at hk; omega) (by unfold isM at hk; omega) (by unfold isM at hk; omega)⟩)
          | (refine ⟨?_, rfl, ?_⟩
             · unfold swV; rw [cif_f (by omega)]
             · unfold SwH; rw [cif_f (fun z => by have := z.1; omega)]; exact ⟨Ag_refl g, fun _ _ => rfl⟩)
    · refine o_iconst (n := 39) rfl rfl ?_
      refine o_goto (t := 52) rfl rfl ?_
      refine o_istore_4 (n := 54) rfl rfl rfl ?_
      refine o_iload (n := 56) rfl rfl rfl ?_
      refine o_if_ne (n := 59) (t := 62) rfl rfl rfl (fun q56 => ?_) (fun q56 => ?_)
      · refine o_iconst (n := 63) rfl rfl ?_
        refine o_istore_5 (n := 65) rfl rfl rfl ?_
        first
          | (exfalso; omega; done)
          | (have n3 : sv3 g p ≠ 0 := by omega
             have n4 : sv4 g p ≠ 0 := by omega
             have f3 := F8_tr f1 f2
             have L := l8_swl (g := g2) (v := sv3 g p) (w := sv4 g p) (p := p) (st := st8 g p) hS (by omega) (by omega) 36 0 vN (by omega) (by omega)
             rw [swe_0] at L
             obtain ⟨n9, v9, g9, r9, w1, w2, w3, w4⟩ := L
             subst w2; subst w3; subst w4
             refine ⟨n9, _, _, _, w1, ?_, rfl, ?_⟩
             · unfold swV; rw [cif_t (by omega), cif_t ⟨n3, n4⟩]
             · unfold SwH; rw [cif_t ⟨by omega, n3, n4⟩]
               refine ⟨swf_c (by omega) (by omega) (FM_Ag (FM_8 f3)), fun k hk => ?_⟩
               unfold isM at hk
               rw [swf_k (by omega)]
               exact f3 k (by omega) (by omega) (by omega))
      · refine o_bipush (n := 61) rfl rfl ?_
        refine o_iret rfl rfl ?_
        first
          | (exfalso; omega; done)
          | (have n4 : sv4 g p = 0 := by omega
             have f3 := F8_tr f1 f2
             refine ⟨?_, rfl, ?_⟩
             · unfold swV; rw [cif_t (by omega), cif_f (fun z => z.2 n4)]
             · unfold SwH; rw [cif_f (fun z => z.2.2 n4)]; exact ⟨FM_Ag (FM_8 f3), fun k hk => f3 k (by unfold isM at hk; omega) (by unfold isM at hk; omega) (by unfold isM at hk; omega)⟩)
          | (have n3 : sv3 g p = 0 := by omega
             refine ⟨?_, rfl, ?_⟩
             · unfold swV; rw [cif_t (by omega), cif_f (fun z => z.1 n3)]
             · unfold SwH; rw [cif_f (fun z => z.2.1 n3)]; exact ⟨FM_Ag (FM_8 f1), fun k hk => f1 k (by unfold isM at hk; omega) (by unfold isM at hk; omega) (by unfold isM at hk; omega)⟩)
          | (refine ⟨?_, rfl, ?_⟩
             · unfold swV; rw [cif_f (by omega)]
             · unfold SwH; rw [cif_f (fun z => by have := z.1; omega)]; exact ⟨Ag_refl g, fun _ _ => rfl⟩)
  · refine o_bipush (n := 18) rfl rfl ?_
    refine o_iret rfl rfl ?_
    first
      | (exfalso; omega; done)
      | (have n4 : sv4 g p = 0 := by omega
         have f3 := F8_tr f1 f2
         refine ⟨?_, rfl, ?_⟩
         · unfold swV; rw [cif_t (by omega), cif_f (fun z => z.2 n4)]
         · unfold SwH; rw [cif_f (fun z => z.2.2 n4)]; exact ⟨FM_Ag (FM_8 f3), fun k hk => f3 k (by unfold isM at hk; omega) (by unfold isM at hk; omega) (by unfold isM at hk; omega)⟩)
      | (have n3 : sv3 g p = 0 := by omega
         refine ⟨?_, rfl, ?_⟩
         · unfold swV; rw [cif_t (by omega), cif_f (fun z => z.1 n3)]
         · unfold SwH; rw [cif_f (fun z => z.2.1 n3)]; exact ⟨FM_Ag (FM_8 f1), fun k hk => f1 k (by unfold isM at hk; omega) (by unfold isM at hk; omega) (by unfold isM at hk; omega)⟩)
      | (refine ⟨?_, rfl, ?_⟩
         · unfold swV; rw [cif_f (by omega)]
         · unfold SwH; rw [cif_f (fun z => by have := z.1; omega)]; exact ⟨Ag_refl g, fun _ _ => rfl⟩)
theorem FB8_Ag {h h1 : GI} {d st : Int} (d0 : 0 ≤ d) (d1 : d < 9) (a : Ag h h1) : FB8 h1 d st = FB8 h d st := FB8_c (by rw [a.1 8 (by omega) (by decide)]) (by rw [a.1 8 (by omega) (by decide)]) (by rw [a.1 27 (by omega) (by decide)]) (by rw [a.1 28 (by omega) (by decide)]) (E8_c d0 (fun s _ _ => a.2 s (by omega))) (by rw [a.1 22 (by omega) (by decide)]) (by rw [a.1 23 (by omega) (by decide)])
theorem sv_c {h h1 : GI} {p : Int} (p0 : 0 ≤ p) (p1 : p < 8) (a : Ag h h1) : sv3 h1 p = sv3 h p ∧ sv4 h1 p = sv4 h p := by
  have e : sv3 h1 p = sv3 h p := by
    unfold sv3
    rw [FB8_Ag (by omega) (by omega) a, st8_m (a.1 8 (by omega) (by decide)) (a.1 29 (by omega) (by decide))]
  refine ⟨e, ?_⟩
  unfold sv4
  rw [e, FB8_Ag (by omega) (by omega) a, st8_m (a.1 8 (by omega) (by decide)) (a.1 29 (by omega) (by decide))]
end SWAP2
