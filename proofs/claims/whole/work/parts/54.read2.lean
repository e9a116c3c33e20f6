/-! read, the reference's. Written by wip/gen/gen54.py -/
section READ8
variable {c : Int} {g h r g0 r0 : GI}
theorem l8_rdZ {g1 : GI} {a p n k : Int} {t : AV} (j : Int) (hS : am_St r) (p0 : 0 ≤ p) (p1 : p < 4) (n0 : 1 ≤ n) (n1 : n ≤ 3) : Ou 153 58 [vR 8 0, vI a, vI p, vI n, vI k, vI 0, vI j, t] [] g1 r (Rq (some (vI k)) g1 r) := by
  have hn := nn9 n0 n1
  refine o_iload (n := 60) rfl rfl rfl ?_
  refine o_iload_n (n := 61) rfl rfl rfl ?_
  refine o_iload_n (n := 62) rfl rfl rfl ?_
  refine o_imul (n := 63) rfl rfl (by omega) ?_
  refine o_icmp_ge (n := 66) (t := 151) rfl rfl rfl (fun q63 => ?_) (fun q63 => ?_)
  · refine o_iload (n := 153) rfl rfl rfl ?_
    refine o_iret rfl rfl ?_
    first | (exfalso; omega; done) | exact ⟨rfl, rfl, rfl⟩
  · refine o_iload (n := 68) rfl rfl rfl ?_
    refine o_aload_n (n := 69) rfl rfl rfl ?_
    refine of_8_1 (n := 72) hS rfl rfl ?_
    refine o_iload_n (n := 73) rfl rfl rfl ?_
    refine o_iald (n := 74) (L := 4) rfl rfl rfl rfl rfl (by omega) (by omega) ?_
    refine o_icmp_ge (n := 77) (t := 151) rfl rfl rfl (fun q74 => ?_) (fun q74 => ?_)
    · refine o_iload (n := 153) rfl rfl rfl ?_
      refine o_iret rfl rfl ?_
      first | (exfalso; omega; done) | exact ⟨rfl, rfl, rfl⟩
    · refine o_iload (n := 79) rfl rfl rfl ?_
      refine o_if_eq (n := 82) (t := 151) rfl rfl rfl (fun q79 => ?_) (fun q79 => (by exfalso; omega))
      refine o_iload (n := 153) rfl rfl rfl ?_
      refine o_iret rfl rfl ?_
      first | (exfalso; omega; done) | exact ⟨rfl, rfl, rfl⟩
theorem l8_rd {a p : Int} (hS : am_St r) (a0 : 0 ≤ a) (a1 : a < 4) (p0 : 0 ≤ p) (p1 : p < 4) (n0 : 1 ≤ g 28 0 8) (n1 : g 28 0 8 ≤ 3) (s1 : g 18 0 p ≤ 60) : ∀ (m : Nat) (j : Int) (t : AV), (0 ≤ j) → (j + m = rdL g p) → (∀ i, 0 ≤ i → i < j → ¬ bad g p i) → Ou 153 58 [vR 8 0, vI a, vI p, vI (g 28 0 8), vI j, vI 1, vI j, t] [] (Rdf g a p (g 28 0 8) j.toNat) r (fun x g2 r2 => x = some (vI (rdc g p)) ∧ r2 = r ∧ g2 = Rdf g a p (g 28 0 8) (rdc g p).toNat) := by
  intro m
  induction m with
  | zero =>
    intro j t i0 i1 no
    have hn := nn9 n0 n1
    have hl := rdL_s g p
    have ek : ∀ k, k ≠ 26 → Rdf g a p (g 28 0 8) j.toNat k = g k := fun k e => Rdf_k e _
    refine o_iload (n := 60) rfl rfl rfl ?_
    refine o_iload_n (n := 61) rfl rfl rfl ?_
    refine o_iload_n (n := 62) rfl rfl rfl ?_
    refine o_imul (n := 63) rfl rfl (by omega) ?_
    refine o_icmp_ge (n := 66) (t := 151) rfl rfl rfl (fun q63 => ?_) (fun q63 => ?_)
    · refine o_iload (n := 153) rfl rfl rfl ?_
      refine o_iret rfl rfl ?_
      have er : rdc g p = j := rd_end n0 n1 (by omega) (by omega) (by omega) no (by
        rcases hl.2.2 with e | e
        · exact Or.inl (by omega)
        · exact Or.inr (Or.inl (by omega)))
      rw [er]
      exact ⟨rfl, rfl, rfl⟩
    · refine o_iload (n := 68) rfl rfl rfl ?_
      refine o_aload_n (n := 69) rfl rfl rfl ?_
      refine of_8_1 (n := 72) hS rfl rfl ?_
      refine o_iload_n (n := 73) rfl rfl rfl ?_
      refine o_iald (n := 74) (L := 4) rfl rfl rfl rfl rfl (by omega) (by omega) ?_
      rw [ek 18 (by decide)]
      refine o_icmp_ge (n := 77) (t := 151) rfl rfl rfl (fun q74 => ?_) (fun q74 => ?_)
      · refine o_iload (n := 153) rfl rfl rfl ?_
        refine o_iret rfl rfl ?_
        have er : rdc g p = j := rd_end n0 n1 (by omega) (by omega) (by omega) no (by
          rcases hl.2.2 with e | e
          · exact Or.inl (by omega)
          · exact Or.inr (Or.inl (by omega)))
        rw [er]
        exact ⟨rfl, rfl, rfl⟩
      · refine o_iload (n := 79) rfl rfl rfl ?_
        refine o_if_eq (n := 82) (t := 151) rfl rfl rfl (fun q79 => ?_) (fun q79 => ?_)
        · refine o_iload (n := 153) rfl rfl rfl ?_
          refine o_iret rfl rfl ?_
          have er : rdc g p = j := rd_end n0 n1 (by omega) (by omega) (by omega) no (by
            rcases hl.2.2 with e | e
            · exact Or.inl (by omega)
            · exact Or.inr (Or.inl (by omega)))
          rw [er]
          exact ⟨rfl, rfl, rfl⟩
        · exfalso; omega
  | succ m ih =>
    intro j t i0 i1 no
    have hn := nn9 n0 n1
    have hl := rdL_s g p
    have ek : ∀ k, k ≠ 26 → Rdf g a p (g 28 0 8) j.toNat k = g k := fun k e => Rdf_k e _
    refine o_iload (n := 60) rfl rfl rfl ?_
    refine o_iload_n (n := 61) rfl rfl rfl ?_
    refine o_iload_n (n := 62) rfl rfl rfl ?_
    refine o_imul (n := 63) rfl rfl (by omega) ?_
    refine o_icmp_ge (n := 66) (t := 151) rfl rfl rfl (fun q63 => (by exfalso; omega)) (fun q63 => ?_)
    refine o_iload (n := 68) rfl rfl rfl ?_
    refine o_aload_n (n := 69) rfl rfl rfl ?_
    refine of_8_1 (n := 72) hS rfl rfl ?_
    refine o_iload_n (n := 73) rfl rfl rfl ?_
    refine o_iald (n := 74) (L := 4) rfl rfl rfl rfl rfl (by omega) (by omega) ?_
    rw [ek 18 (by decide)]
    refine o_icmp_ge (n := 77) (t := 151) rfl rfl rfl (fun q74 => (by exfalso; omega)) (fun q74 => ?_)
    refine o_iload (n := 79) rfl rfl rfl ?_
    refine o_if_eq (n := 82) (t := 151) rfl rfl rfl (fun q79 => (by exfalso; omega)) (fun q79 => ?_)
    refine o_aload_n (n := 83) rfl rfl rfl ?_
    refine of_8_2 (n := 86) hS rfl rfl ?_
    refine o_bipush (n := 88) rfl rfl ?_
    refine o_iload_n (n := 89) rfl rfl rfl ?_
    refine o_imul (n := 90) rfl rfl (by omega) ?_
    refine o_iload (n := 92) rfl rfl rfl ?_
    refine o_iadd (n := 93) rfl rfl (by omega) ?_
    refine o_iald (n := 94) (L := 240) rfl rfl rfl rfl rfl (by omega) (by omega) ?_
    rw [ek 19 (by decide)]
    have hdm : 0 ≤ j / g 28 0 8 ∧ j / g 28 0 8 ≤ 2 ∧ 0 ≤ j % g 28 0 8 ∧ j % g 28 0 8 ≤ 2 := by
      rcases (show g 28 0 8 = 1 ∨ g 28 0 8 = 2 ∨ g 28 0 8 = 3 by omega) with e | e | e <;> rw [e] <;> (rw [e] at q63; omega)
    refine o_istore_7 (n := 96) rfl rfl rfl ?_
    refine o_iload (n := 98) rfl rfl rfl ?_
    refine o_i2l (n := 99) rfl rfl ?_
    refine o_ldc2_w (n := 102) rfl rfl ?_
    refine o_ldc2_w (n := 105) rfl rfl ?_
    refine o_invsi (n := 108) rfl rfl rfl rfl rfl rfl (c8_in _ _ _) ?_
    refine o_istore_5 (n := 110) rfl rfl rfl ?_
    refine o_iload (n := 112) rfl rfl rfl ?_
    refine o_ifb_eq (n := 115) (t := 145) rfl rfl rfl (fun q112 => ?_) (fun q112 => ?_)
    · refine o_iinc_6 (n := 148) rfl rfl rfl (by omega) ?_
      refine o_goto (t := 58) rfl rfl ?_
      have hit : g 19 0 (60 * p + j) = itm g p j := rfl
      rw [hit] at q112
      first
        | (have hgood : -1 ≤ itm g p j ∧ itm g p j ≤ 999 := q112
           rw [hit, bi_t hgood]
           have er : gset (Rdf g a p (g 28 0 8) j.toNat) 26 0 (288 + 9 * a + 3 * (j / g 28 0 8) + j % g 28 0 8) (itm g p j) = Rdf g a p (g 28 0 8) (j + 1).toNat := by
             rw [show (j + 1).toNat = j.toNat + 1 by omega]
             show _ = gset _ 26 0 (288 + 9 * a + 3 * ((j.toNat : Int) / g 28 0 8) + (j.toNat : Int) % g 28 0 8) (itm g p (j.toNat : Int))
             rw [show ((j.toNat : Nat) : Int) = j by omega]
           rw [er]
           refine ih (j + 1) _ (by omega) (by omega) (fun i x y => ?_)
           by_cases q : i = j
           · rw [q]; exact fun z => z hgood
           · exact no i x (by omega))
        | (have hb : bad g p j := q112
           rw [hit, bi_f q112]
           have er : rdc g p = j := rd_end n0 n1 (by omega) (by omega) (by omega) no (Or.inr (Or.inr hb))
           rw [er]
           obtain ⟨n9, v9, g9, r9, w1, w2, w3, w4⟩ := l8_rdZ (r := r) (g1 := Rdf g a p (g 28 0 8) j.toNat) (a := a) (k := j) (t := vI (itm g p j)) (j + 1) hS p0 p1 n0 n1
           exact ⟨n9, v9, g9, r9, w1, w2, w4, w3⟩)
    · refine o_aload_n (n := 116) rfl rfl rfl ?_
      refine of_8_16 (n := 119) hS rfl rfl ?_
      refine o_sipush (n := 122) rfl rfl ?_
      refine o_bipush (n := 124) rfl rfl ?_
      refine o_iload_n (n := 125) rfl rfl rfl ?_
      refine o_imul (n := 126) rfl rfl (by omega) ?_
      refine o_iadd (n := 127) rfl rfl (by omega) ?_
      refine o_iconst (n := 128) rfl rfl ?_
      refine o_iload (n := 130) rfl rfl rfl ?_
      refine o_iload_n (n := 131) rfl rfl rfl ?_
      refine o_idiv (n := 132) rfl rfl (by omega) ?_
      refine o_imul (n := 133) rfl rfl (by omega) ?_
      refine o_iadd (n := 134) rfl rfl (by omega) ?_
      refine o_iload (n := 136) rfl rfl rfl ?_
      refine o_iload_n (n := 137) rfl rfl rfl ?_
      refine o_irem (n := 138) rfl rfl (by omega) ?_
      refine o_iadd (n := 139) rfl rfl (by omega) ?_
      refine o_iload (n := 141) rfl rfl rfl ?_
      refine o_iast (n := 142) (L := 324) rfl rfl rfl rfl rfl (by omega) (by omega) ?_
      refine o_iinc_4 (n := 145) rfl rfl rfl (by omega) ?_
      refine o_iinc_6 (n := 148) rfl rfl rfl (by omega) ?_
      refine o_goto (t := 58) rfl rfl ?_
      have hit : g 19 0 (60 * p + j) = itm g p j := rfl
      rw [hit] at q112
      first
        | (have hgood : -1 ≤ itm g p j ∧ itm g p j ≤ 999 := q112
           rw [hit, bi_t hgood]
           have er : gset (Rdf g a p (g 28 0 8) j.toNat) 26 0 (288 + 9 * a + 3 * (j / g 28 0 8) + j % g 28 0 8) (itm g p j) = Rdf g a p (g 28 0 8) (j + 1).toNat := by
             rw [show (j + 1).toNat = j.toNat + 1 by omega]
             show _ = gset _ 26 0 (288 + 9 * a + 3 * ((j.toNat : Int) / g 28 0 8) + (j.toNat : Int) % g 28 0 8) (itm g p (j.toNat : Int))
             rw [show ((j.toNat : Nat) : Int) = j by omega]
           rw [er]
           refine ih (j + 1) _ (by omega) (by omega) (fun i x y => ?_)
           by_cases q : i = j
           · rw [q]; exact fun z => z hgood
           · exact no i x (by omega))
        | (have hb : bad g p j := q112
           rw [hit, bi_f q112]
           have er : rdc g p = j := rd_end n0 n1 (by omega) (by omega) (by omega) no (Or.inr (Or.inr hb))
           rw [er]
           obtain ⟨n9, v9, g9, r9, w1, w2, w3, w4⟩ := l8_rdZ (r := r) (g1 := Rdf g a p (g 28 0 8) j.toNat) (a := a) (k := j) (t := vI (itm g p j)) (j + 1) hS p0 p1 n0 n1
           exact ⟨n9, v9, g9, r9, w1, w2, w4, w3⟩)
theorem c8_read (a p : Int) (hI : Iv c g0 g r0) (hS : am_St r) : Ou 153 0 (am_ini 153 [vR 8 0, vI a, vI p]) [] g r (fun x g1 r1 => x = some (vI (rdV g a p)) ∧ r1 = r ∧ FH (RdH g a p) g g1) := by
  show Ou 153 0 [vR 8 0, vI a, vI p, vN, vN, vN, vN, vN] [] g r _
  obtain ⟨⟨hS0, hR, h6, hP⟩, hsg, htx, hru, hwd, hnw, hst, hsh, hla⟩ := id hI
  obtain ⟨sg1, sg2, sg3⟩ := hI.2.1
  obtain ⟨tx1, tx2, tx3, tx4⟩ := hI.2.2.1
  have ru0 : g0 7 0 10 = g 8 0 8 := hI.2.2.2.1.1.1
  have ru1 := hI.2.2.2.1.2.1.1
  have wd0 : g0 1 0 1 = g 8 0 14 := hI.2.2.2.2.1.1.1
  have wd1 := hI.2.2.2.2.1.2.1.1
  have wd2 := hI.2.2.2.2.1.2.2
  have nw0 : g0 0 0 0 = g 27 0 8 := hI.2.2.2.2.2.1.1.1
  have nw1 : g0 0 0 1 = g 28 0 8 := hI.2.2.2.2.2.1.1.2.1
  have nw2 := hI.2.2.2.2.2.1.2.1
  have nw3 := hI.2.2.2.2.2.1.2.2.1
  have st0 := hI.2.2.2.2.2.2.1.1
  have st1 := hI.2.2.2.2.2.2.1.2.1
  have st2 := hI.2.2.2.2.2.2.1.2.2.1
  have la0 : g0 7 0 13 = g 8 0 4 := hI.2.2.2.2.2.2.2.2
  refine o_iload_n (n := 1) rfl rfl rfl ?_
  refine o_i2l (n := 2) rfl rfl ?_
  refine o_lconst (n := 3) rfl rfl ?_
  refine o_aload_n (n := 4) rfl rfl rfl ?_
  refine o_geti (n := 7) rfl rfl rfl rfl rfl ?_
  refine o_iconst (n := 8) rfl rfl ?_
  refine o_isub (n := 9) rfl rfl (by omega) ?_
  refine o_i2l (n := 10) rfl rfl ?_
  refine o_invsi (n := 13) rfl rfl rfl rfl rfl rfl (c8_in _ _ _) ?_
  refine o_ifb_eq (n := 16) (t := 23) rfl rfl rfl (fun q13 => ?_) (fun q13 => ?_)
  · refine o_bipush (n := 25) rfl rfl ?_
    refine o_iret rfl rfl ?_
    first
      | (exfalso; omega; done)
      | (have h17 : g 17 0 p = -1 := by have hsp := hsh p (by omega) (by omega); omega
         refine ⟨?_, rfl, ?_⟩
         · unfold rdV; rw [cif_t (by omega), cif_t h17]; rfl
         · unfold RdH; rw [cif_t (by omega), cif_t h17]; exact ⟨Ag_refl _, fun k hk => gset_kf (by unfold isM at hk; omega)⟩)
      | (refine ⟨?_, rfl, ?_⟩
         · unfold rdV; rw [cif_f (by omega)]
         · unfold RdH; rw [cif_f (by omega)]; exact ⟨Ag_refl _, fun _ _ => rfl⟩)
  · refine o_iload_n (n := 17) rfl rfl rfl ?_
    refine o_invsi (n := 20) rfl rfl rfl rfl rfl rfl (c8_isSheet _) ?_
    refine o_ifb_ne (n := 23) (t := 26) rfl rfl rfl (fun q20 => ?_) (fun q20 => ?_)
    · refine o_aload_n (n := 27) rfl rfl rfl ?_
      refine of_8_0 (n := 30) hS rfl rfl ?_
      refine o_iload_n (n := 31) rfl rfl rfl ?_
      refine o_iald (n := 32) (L := 4) rfl rfl rfl rfl rfl (by omega) (by omega) ?_
      refine o_if_ge (n := 35) (t := 41) rfl rfl rfl (fun q32 => ?_) (fun q32 => ?_)
      · refine o_aload_n (n := 42) rfl rfl rfl ?_
        refine of_8_18 (n := 45) hS rfl rfl ?_
        refine o_bipush (n := 47) rfl rfl ?_
        refine o_iald (n := 48) (L := 9) rfl rfl rfl rfl rfl (by omega) (by omega) ?_
        refine o_istore_3 (n := 49) rfl rfl rfl ?_
        refine o_iconst (n := 50) rfl rfl ?_
        refine o_istore_4 (n := 52) rfl rfl rfl ?_
        refine o_iconst (n := 53) rfl rfl ?_
        refine o_istore_5 (n := 55) rfl rfl rfl ?_
        refine o_iconst (n := 56) rfl rfl ?_
        refine o_istore_6 (n := 58) rfl rfl rfl ?_
        have hsp := hsh p (by omega) (by omega)
        have h17 : ¬ g 17 0 p = -1 := by omega
        have hl := rdL_s g p
        have hn := nn9 (n := g 28 0 8) (by omega) (by omega)
        obtain ⟨n9, v9, g9, r9, w1, w2, w3, w4⟩ := l8_rd (g := g) (r := r) (a := a) (p := p) hS (by omega) (by omega) (by omega) (by omega) (by omega) (by omega) (by omega) (rdL g p).toNat 0 vN (by omega) (by omega) (fun i a b => by omega)
        refine ⟨n9, v9, g9, r9, w1, ?_, w3, ?_⟩
        · unfold rdV; rw [cif_t (by omega), cif_f h17]; exact w2
        · unfold RdH; rw [cif_t (by omega), cif_f h17, w4]
          exact ⟨Ag_refl _, fun k hk => Rdf_k (by unfold isM at hk; omega) _⟩
      · refine o_aload_n (n := 36) rfl rfl rfl ?_
        refine o_iconst (n := 37) rfl rfl ?_
        refine o_invi (n := 40) rfl rfl rfl rfl rfl rfl rfl rfl rfl rfl (c8_finds _ (by omega) (by omega)) ?_
        refine o_iret rfl rfl ?_
        first
          | (exfalso; omega; done)
          | (have h17 : g 17 0 p = -1 := by have hsp := hsh p (by omega) (by omega); omega
             refine ⟨?_, rfl, ?_⟩
             · unfold rdV; rw [cif_t (by omega), cif_t h17]; rfl
             · unfold RdH; rw [cif_t (by omega), cif_t h17]; exact ⟨Ag_refl _, fun k hk => gset_kf (by unfold isM at hk; omega)⟩)
          | (refine ⟨?_, rfl, ?_⟩
             · unfold rdV; rw [cif_f (by omega)]
             · unfold RdH; rw [cif_f (by omega)]; exact ⟨Ag_refl _, fun _ _ => rfl⟩)
    · refine o_bipush (n := 25) rfl rfl ?_
      refine o_iret rfl rfl ?_
      first
        | (exfalso; omega; done)
        | (have h17 : g 17 0 p = -1 := by have hsp := hsh p (by omega) (by omega); omega
           refine ⟨?_, rfl, ?_⟩
           · unfold rdV; rw [cif_t (by omega), cif_t h17]; rfl
           · unfold RdH; rw [cif_t (by omega), cif_t h17]; exact ⟨Ag_refl _, fun k hk => gset_kf (by unfold isM at hk; omega)⟩)
        | (refine ⟨?_, rfl, ?_⟩
           · unfold rdV; rw [cif_f (by omega)]
           · unfold RdH; rw [cif_f (by omega)]; exact ⟨Ag_refl _, fun _ _ => rfl⟩)
theorem rdc_c {h1 : GI} {p : Int} (a : Ag h h1) : rdc h1 p = rdc h p := by
  have e : rdL h1 p = rdL h p := by unfold rdL; rw [a.1 28 (by omega) (by decide), a.1 18 (by omega) (by decide)]
  unfold rdc
  rw [e]
  refine fi_congr (fun j _ _ => ?_)
  unfold bad itm
  rw [a.1 19 (by omega) (by decide)]
theorem p_read (a p : Int) : Pr 57 153 [vI a, vI p] := pr_H (fun h => vI (rdV h a p)) (fun h => RdH h a p) (fun c g h r _ _ hI => c7_read a p hI) (fun c g0 g r0 r hI hS => c8_read a p hI hS) (fun h h1 A => by
  show vI (rdV h1 a p) = vI (rdV h a p)
  unfold rdV
  rw [A.1 8 (by omega) (by decide), A.1 17 (by omega) (by decide), rdc_c A]) (fun h h1 A => by
  show Ag (RdH h a p) (RdH h1 a p)
  unfold RdH
  rw [A.1 8 (by omega) (by decide), A.1 17 (by omega) (by decide), rdc_c A, A.1 28 (by omega) (by decide)]
  by_cases e : (0 ≤ a ∧ a < h 8 0 5) ∧ (0 ≤ p ∧ p < 4)
  · rw [cif_t e, cif_t e]
    by_cases e2 : h 17 0 p = -1
    · rw [cif_t e2, cif_t e2]
      refine ⟨fun k hk k26 => ?_, fun s hs => A.2 s hs⟩
      funext i s
      unfold gset
      rw [A.1 k hk k26]
    · rw [cif_f e2, cif_f e2]; exact Rdf_c A _
  · rw [cif_f e, cif_f e]; exact A)
end READ8
