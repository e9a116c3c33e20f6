/-! switches; fault of both. Written by wip/gen/gen36.py -/
section SW
variable {m pc : Nat} {ls st : List AV} {g r : GI} {Q : Option AV → GI → GI → Prop} {a : Int} {b c d : Nat}
theorem o_tabC {x dd lo hi : Int} {os : Array Int} {len td : Nat} (h : am_code m pc = some (.tableswitch dd lo hi os, len, a, b, c, d)) (ht : ((pc : Int) + dd).toNat = td) (kd : x < lo ∨ hi < x → Ou m td ls st g r Q) (ks : ∀ j : Nat, lo + (j : Int) ≤ hi → x = lo + (j : Int) → Ou m ((pc : Int) + os.getD j 0).toNat ls st g r Q) : Ou m pc ls (vI x :: st) g r Q := by
  by_cases z : x < lo ∨ hi < x
  · exact o_tabOut h z ht (kd z)
  · exact o_tabIn h z rfl (ks (x - lo).toNat (by omega) (by omega))
theorem o_look2 {x dd o0 o1 : Int} {len t0 t1 td : Nat} (h : am_code m pc = some (.lookupswitch dd #[(0, o0), (1, o1)], len, a, b, c, d)) (h0 : ((pc : Int) + o0).toNat = t0) (h1 : ((pc : Int) + o1).toNat = t1) (ht : ((pc : Int) + dd).toNat = td) (k0 : x = 0 → Ou m t0 ls st g r Q) (k1 : x = 1 → Ou m t1 ls st g r Q) (kd : x ≠ 0 → x ≠ 1 → Ou m td ls st g r Q) : Ou m pc ls (vI x :: st) g r Q := by
  by_cases z0 : x = 0
  · refine o_look h ?_ (k0 z0)
    subst z0; exact h0
  · by_cases z1 : x = 1
    · refine o_look h ?_ (k1 z1)
      subst z1; exact h1
    · refine o_look h ?_ (kd z0 z1)
      have e : Op.lookupswitch.offset [((0 : Int), o0), (1, o1)] dd x = dd := by
        rw [Op.lookupswitch.offset_cons, if_neg (fun q => z0 q.symm), Op.lookupswitch.offset_cons, if_neg (fun q => z1 q.symm)]
        rfl
      exact (congrArg (fun q => ((pc : Int) + q).toNat) e).trans ht
end SW
/-- the fault as a rule, the reference's way: left letters, right letters, arrow seen -/
theorem fr_congr {g h : GI} {K K' : Nat} {s : Int} : ∀ {n : Nat} {j ld q : Int}, (∀ k, j ≤ k → k < j + n → g K 0 k = h K' 0 k) → fr g K s n j ld q = fr h K' s n j ld q
  | 0, _, _, _, _ => rfl
  | n + 1, j, ld, q, e => by
    unfold fr
    rw [e j (by omega) (by omega), fr_congr (fun k a b => e k (by omega) (by omega)), fr_congr (fun k a b => e k (by omega) (by omega))]
theorem nl_congr {g h : GI} {s n : Int} (hn : 0 ≤ n) (e : ∀ k, 0 ≤ k → k < n → h 21 0 k = g 12 0 k) : fi n.toNat 0 (nl g 12 s) (-1) = fi n.toNat 0 (nl h 21 s) (-1) := by
  refine fi_congr (fun j j0 j1 => ?_)
  unfold nl
  rw [e j j0 (by omega)]
section FR
variable {g r : GI}
theorem fr_l {K : Nat} {s : Int} {n : Nat} {j ld q : Int} (h : (97 ≤ g K 0 j ∧ g K 0 j ≤ 96 + s) ∧ q < 6) : fr g K s (n + 1) j ld q = fr g K s n (j + 1) ld (q + 1) := cif_t h
theorem fr_a {K : Nat} {s : Int} {n : Nat} {j ld q : Int} (h : ¬ ((97 ≤ g K 0 j ∧ g K 0 j ≤ 96 + s) ∧ q < 6)) (h' : (g K 0 j = 62 ∨ g K 0 j = 61) ∧ ld = 0 ∧ 0 < q) : fr g K s (n + 1) j ld q = fr g K s n (j + 1) 1 0 := (cif_f h).trans (cif_t h')
theorem fr_x {K : Nat} {s : Int} {n : Nat} {j ld q : Int} (h : ¬ ((97 ≤ g K 0 j ∧ g K 0 j ≤ 96 + s) ∧ q < 6)) (h' : ¬ ((g K 0 j = 62 ∨ g K 0 j = 61) ∧ ld = 0 ∧ 0 < q)) : fr g K s (n + 1) j ld q = j := (cif_f h).trans (cif_f h')
theorem l8_faultOfRule (hS : am_St r) (hs0 : 1 ≤ g 8 0 5) (hs1 : g 8 0 5 ≤ 4) (hT : g 8 0 7 ≤ 20) : ∀ (m : Nat) (k v1 v2 ld : Int) (t5 t6 : AV), (0 ≤ k) → (k + m = g 8 0 7) → (ld = 0 ∨ ld = 1) → (0 ≤ v1) → (v1 ≤ 6) → (0 ≤ v2) → (v2 ≤ 6) → (ld = 0 → v2 = 0) → Ou 125 9 [vR 8 0, vI v1, vI v2, vI ld, vI k, t5, t6] [] g r (Rq (some (vI (fr g 21 (g 8 0 5) m k ld (cif (ld = 0) v1 v2)))) g r) := by
  intro m
  induction m with
  | zero =>
    intro k v1 v2 ld t5 t6 i0 i1 i2 i3 i4 i5 i6 i7
    refine o_iload (n := 11) rfl rfl rfl ?_
    refine o_aload_n (n := 12) rfl rfl rfl ?_
    refine o_geti (n := 15) rfl rfl rfl rfl rfl ?_
    refine o_icmp_ge (n := 18) (t := 162) rfl rfl rfl (fun k15 => ?_) (fun k15 => (by exfalso; omega))
    refine o_iload_n (n := 163) rfl rfl rfl ?_
    refine o_if_eq (n := 166) (t := 170) rfl rfl rfl (fun k163 => ?_) (fun k163 => ?_)
    · refine o_aload_n (n := 171) rfl rfl rfl ?_
      refine o_geti (n := 174) rfl rfl rfl rfl rfl ?_
      refine o_iret rfl rfl ?_
      first
        | (exfalso; omega; done)
        | (refine ⟨congrArg (fun z => some (vI z)) ?_, rfl, rfl⟩
           rw [show fr g 21 (g 8 0 5) 0 k ld (cif (ld = 0) v1 v2) = cif (ld = 0) k (-1) from rfl]
           first | (rw [cif_t (by omega)]; omega) | (rw [cif_f (by omega)]))
    · refine o_iconst (n := 167) rfl rfl ?_
      refine o_goto (t := 174) rfl rfl ?_
      refine o_iret rfl rfl ?_
      first
        | (exfalso; omega; done)
        | (refine ⟨congrArg (fun z => some (vI z)) ?_, rfl, rfl⟩
           rw [show fr g 21 (g 8 0 5) 0 k ld (cif (ld = 0) v1 v2) = cif (ld = 0) k (-1) from rfl]
           first | (rw [cif_t (by omega)]; omega) | (rw [cif_f (by omega)]))
  | succ m ih =>
    intro k v1 v2 ld t5 t6 i0 i1 i2 i3 i4 i5 i6 i7
    refine o_iload (n := 11) rfl rfl rfl ?_
    refine o_aload_n (n := 12) rfl rfl rfl ?_
    refine o_geti (n := 15) rfl rfl rfl rfl rfl ?_
    refine o_icmp_ge (n := 18) (t := 162) rfl rfl rfl (fun k15 => (by exfalso; omega)) (fun k15 => ?_)
    refine o_aload_n (n := 19) rfl rfl rfl ?_
    refine of_8_6 (n := 22) hS rfl rfl ?_
    refine o_iload (n := 24) rfl rfl rfl ?_
    refine o_iald (n := 25) (L := 20) rfl rfl rfl rfl rfl (by omega) (by omega) ?_
    refine o_istore_5 (n := 27) rfl rfl rfl ?_
    refine o_aload_n (n := 28) rfl rfl rfl ?_
    refine o_iload (n := 30) rfl rfl rfl ?_
    refine o_invi (n := 33) rfl rfl rfl rfl rfl rfl rfl rfl rfl rfl (c8_isSign _ hs0 hs1) ?_
    refine o_ifb_eq (n := 36) (t := 58) rfl rfl rfl (fun k33 => ?_) (fun k33 => ?_)
    · refine o_iload_n (n := 59) rfl rfl rfl ?_
      refine o_if_ne (n := 62) (t := 84) rfl rfl rfl (fun k59 => ?_) (fun k59 => ?_)
      · refine o_iconst (n := 85) rfl rfl ?_
        refine o_istore_6 (n := 87) rfl rfl rfl ?_
        refine o_iload (n := 89) rfl rfl rfl ?_
        refine o_if_ne (n := 92) (t := 95) rfl rfl rfl (fun k89 => ?_) (fun k89 => ?_)
        · refine o_iload_n (n := 96) rfl rfl rfl ?_
          refine o_if_ne (n := 99) (t := 108) rfl rfl rfl (fun k96 => ?_) (fun k96 => ?_)
          · refine o_iconst (n := 109) rfl rfl ?_
            refine o_goto (t := 113) rfl rfl ?_
            refine o_istore_3 (n := 114) rfl rfl rfl ?_
            refine o_iload_n (n := 115) rfl rfl rfl ?_
            refine o_aload_n (n := 116) rfl rfl rfl ?_
            refine o_iload (n := 118) rfl rfl rfl ?_
            refine o_invi (n := 121) rfl rfl rfl rfl rfl rfl rfl rfl rfl rfl (c8_isSign _ hs0 hs1) ?_
            refine o_ifb_eq (n := 124) (t := 132) rfl rfl rfl (fun k121 => ?_) (fun k121 => ?_)
            · refine o_iconst (n := 133) rfl rfl ?_
              refine o_iadd (n := 134) rfl rfl (by omega) ?_
              refine o_istore_1 (n := 135) rfl rfl rfl ?_
              refine o_iload_n (n := 136) rfl rfl rfl ?_
              refine o_aload_n (n := 137) rfl rfl rfl ?_
              refine o_iload (n := 139) rfl rfl rfl ?_
              refine o_invi (n := 142) rfl rfl rfl rfl rfl rfl rfl rfl rfl rfl (c8_isSign _ hs0 hs1) ?_
              refine o_ifb_eq (n := 145) (t := 153) rfl rfl rfl (fun k142 => ?_) (fun k142 => ?_)
              · refine o_iconst (n := 154) rfl rfl ?_
                refine o_iadd (n := 155) rfl rfl (by omega) ?_
                refine o_istore_2 (n := 156) rfl rfl rfl ?_
                refine o_iinc_4 (n := 159) rfl rfl rfl (by omega) ?_
                refine o_goto (t := 9) rfl rfl ?_
                first
                  | (exfalso; omega; done)
                  | (have hz : ld = 0 ∧ (97 ≤ g 21 0 k ∧ g 21 0 k ≤ 96 + g 8 0 5) ∧ v1 < 6 := by omega
                     obtain ⟨hz, hl, h6⟩ := hz
                     subst hz
                     rw [cif_t rfl, fr_l ⟨hl, h6⟩]
                     have e := ih (k + 1) (v1 + 1) (v2 + 0) 0 (vI (g 21 0 k)) (vI 1) (by omega) (by omega) (by omega) (by omega) (by omega) (by omega) (by omega) (by omega)
                     rw [cif_t rfl] at e
                     exact e)
                  | (have hz : ld = 1 ∧ (97 ≤ g 21 0 k ∧ g 21 0 k ≤ 96 + g 8 0 5) ∧ v2 < 6 := by omega
                     obtain ⟨hz, hl, h6⟩ := hz
                     subst hz
                     rw [cif_f (by decide), fr_l ⟨hl, h6⟩]
                     have e := ih (k + 1) (v1 + 0) (v2 + 1) 1 (vI (g 21 0 k)) (vI 1) (by omega) (by omega) (by omega) (by omega) (by omega) (by omega) (by omega) (by omega)
                     rw [cif_f (by decide)] at e
                     exact e)
                  | (have hz : ld = 0 ∧ ¬ (97 ≤ g 21 0 k ∧ g 21 0 k ≤ 96 + g 8 0 5) ∧ (g 21 0 k = 62 ∨ g 21 0 k = 61) ∧ 0 < v1 ∧ v2 = 0 := by omega
                     obtain ⟨hz, hl, h6, h7, h8⟩ := hz
                     subst hz
                     subst h8
                     rw [cif_t rfl, fr_a (fun z => hl z.1) ⟨h6, rfl, h7⟩]
                     have e := ih (k + 1) (v1 + 0) (0 + 0) 1 (vI (g 21 0 k)) (vI 1) (by omega) (by omega) (by omega) (by omega) (by omega) (by omega) (by omega) (by omega)
                     rw [cif_f (by decide)] at e
                     exact e)
              · refine o_iload_n (n := 146) rfl rfl rfl ?_
                refine o_if_eq (n := 149) (t := 153) rfl rfl rfl (fun k146 => ?_) (fun k146 => ?_)
                · refine o_iconst (n := 154) rfl rfl ?_
                  refine o_iadd (n := 155) rfl rfl (by omega) ?_
                  refine o_istore_2 (n := 156) rfl rfl rfl ?_
                  refine o_iinc_4 (n := 159) rfl rfl rfl (by omega) ?_
                  refine o_goto (t := 9) rfl rfl ?_
                  first
                    | (exfalso; omega; done)
                    | (have hz : ld = 0 ∧ (97 ≤ g 21 0 k ∧ g 21 0 k ≤ 96 + g 8 0 5) ∧ v1 < 6 := by omega
                       obtain ⟨hz, hl, h6⟩ := hz
                       subst hz
                       rw [cif_t rfl, fr_l ⟨hl, h6⟩]
                       have e := ih (k + 1) (v1 + 1) (v2 + 0) 0 (vI (g 21 0 k)) (vI 1) (by omega) (by omega) (by omega) (by omega) (by omega) (by omega) (by omega) (by omega)
                       rw [cif_t rfl] at e
                       exact e)
                    | (have hz : ld = 1 ∧ (97 ≤ g 21 0 k ∧ g 21 0 k ≤ 96 + g 8 0 5) ∧ v2 < 6 := by omega
                       obtain ⟨hz, hl, h6⟩ := hz
                       subst hz
                       rw [cif_f (by decide), fr_l ⟨hl, h6⟩]
                       have e := ih (k + 1) (v1 + 0) (v2 + 1) 1 (vI (g 21 0 k)) (vI 1) (by omega) (by omega) (by omega) (by omega) (by omega) (by omega) (by omega) (by omega)
                       rw [cif_f (by decide)] at e
                       exact e)
                    | (have hz : ld = 0 ∧ ¬ (97 ≤ g 21 0 k ∧ g 21 0 k ≤ 96 + g 8 0 5) ∧ (g 21 0 k = 62 ∨ g 21 0 k = 61) ∧ 0 < v1 ∧ v2 = 0 := by omega
                       obtain ⟨hz, hl, h6, h7, h8⟩ := hz
                       subst hz
                       subst h8
                       rw [cif_t rfl, fr_a (fun z => hl z.1) ⟨h6, rfl, h7⟩]
                       have e := ih (k + 1) (v1 + 0) (0 + 0) 1 (vI (g 21 0 k)) (vI 1) (by omega) (by omega) (by omega) (by omega) (by omega) (by omega) (by omega) (by omega)
                       rw [cif_f (by decide)] at e
                       exact e)
                · refine o_iconst (n := 150) rfl rfl ?_
                  refine o_goto (t := 154) rfl rfl ?_
                  refine o_iadd (n := 155) rfl rfl (by omega) ?_
                  refine o_istore_2 (n := 156) rfl rfl rfl ?_
                  refine o_iinc_4 (n := 159) rfl rfl rfl (by omega) ?_
                  refine o_goto (t := 9) rfl rfl ?_
                  first
                    | (exfalso; omega; done)
                    | (have hz : ld = 0 ∧ (97 ≤ g 21 0 k ∧ g 21 0 k ≤ 96 + g 8 0 5) ∧ v1 < 6 := by omega
                       obtain ⟨hz, hl, h6⟩ := hz
                       subst hz
                       rw [cif_t rfl, fr_l ⟨hl, h6⟩]
                       have e := ih (k + 1) (v1 + 1) (v2 + 0) 0 (vI (g 21 0 k)) (vI 1) (by omega) (by omega) (by omega) (by omega) (by omega) (by omega) (by omega) (by omega)
                       rw [cif_t rfl] at e
                       exact e)
                    | (have hz : ld = 1 ∧ (97 ≤ g 21 0 k ∧ g 21 0 k ≤ 96 + g 8 0 5) ∧ v2 < 6 := by omega
                       obtain ⟨hz, hl, h6⟩ := hz
                       subst hz
                       rw [cif_f (by decide), fr_l ⟨hl, h6⟩]
                       have e := ih (k + 1) (v1 + 0) (v2 + 1) 1 (vI (g 21 0 k)) (vI 1) (by omega) (by omega) (by omega) (by omega) (by omega) (by omega) (by omega) (by omega)
                       rw [cif_f (by decide)] at e
                       exact e)
                    | (have hz : ld = 0 ∧ ¬ (97 ≤ g 21 0 k ∧ g 21 0 k ≤ 96 + g 8 0 5) ∧ (g 21 0 k = 62 ∨ g 21 0 k = 61) ∧ 0 < v1 ∧ v2 = 0 := by omega
                       obtain ⟨hz, hl, h6, h7, h8⟩ := hz
                       subst hz
                       subst h8
                       rw [cif_t rfl, fr_a (fun z => hl z.1) ⟨h6, rfl, h7⟩]
                       have e := ih (k + 1) (v1 + 0) (0 + 0) 1 (vI (g 21 0 k)) (vI 1) (by omega) (by omega) (by omega) (by omega) (by omega) (by omega) (by omega) (by omega)
                       rw [cif_f (by decide)] at e
                       exact e)
            · refine o_iload_n (n := 125) rfl rfl rfl ?_
              refine o_if_ne (n := 128) (t := 132) rfl rfl rfl (fun k125 => ?_) (fun k125 => ?_)
              · refine o_iconst (n := 133) rfl rfl ?_
                refine o_iadd (n := 134) rfl rfl (by omega) ?_
                refine o_istore_1 (n := 135) rfl rfl rfl ?_
                refine o_iload_n (n := 136) rfl rfl rfl ?_
                refine o_aload_n (n := 137) rfl rfl rfl ?_
                refine o_iload (n := 139) rfl rfl rfl ?_
                refine o_invi (n := 142) rfl rfl rfl rfl rfl rfl rfl rfl rfl rfl (c8_isSign _ hs0 hs1) ?_
                refine o_ifb_eq (n := 145) (t := 153) rfl rfl rfl (fun k142 => ?_) (fun k142 => ?_)
                · refine o_iconst (n := 154) rfl rfl ?_
                  refine o_iadd (n := 155) rfl rfl (by omega) ?_
                  refine o_istore_2 (n := 156) rfl rfl rfl ?_
                  refine o_iinc_4 (n := 159) rfl rfl rfl (by omega) ?_
                  refine o_goto (t := 9) rfl rfl ?_
                  first
                    | (exfalso; omega; done)
                    | (have hz : ld = 0 ∧ (97 ≤ g 21 0 k ∧ g 21 0 k ≤ 96 + g 8 0 5) ∧ v1 < 6 := by omega
                       obtain ⟨hz, hl, h6⟩ := hz
                       subst hz
                       rw [cif_t rfl, fr_l ⟨hl, h6⟩]
                       have e := ih (k + 1) (v1 + 1) (v2 + 0) 0 (vI (g 21 0 k)) (vI 1) (by omega) (by omega) (by omega) (by omega) (by omega) (by omega) (by omega) (by omega)
                       rw [cif_t rfl] at e
                       exact e)
                    | (have hz : ld = 1 ∧ (97 ≤ g 21 0 k ∧ g 21 0 k ≤ 96 + g 8 0 5) ∧ v2 < 6 := by omega
                       obtain ⟨hz, hl, h6⟩ := hz
                       subst hz
                       rw [cif_f (by decide), fr_l ⟨hl, h6⟩]
                       have e := ih (k + 1) (v1 + 0) (v2 + 1) 1 (vI (g 21 0 k)) (vI 1) (by omega) (by omega) (by omega) (by omega) (by omega) (by omega) (by omega) (by omega)
                       rw [cif_f (by decide)] at e
                       exact e)
                    | (have hz : ld = 0 ∧ ¬ (97 ≤ g 21 0 k ∧ g 21 0 k ≤ 96 + g 8 0 5) ∧ (g 21 0 k = 62 ∨ g 21 0 k = 61) ∧ 0 < v1 ∧ v2 = 0 := by omega
                       obtain ⟨hz, hl, h6, h7, h8⟩ := hz
                       subst hz
                       subst h8
                       rw [cif_t rfl, fr_a (fun z => hl z.1) ⟨h6, rfl, h7⟩]
                       have e := ih (k + 1) (v1 + 0) (0 + 0) 1 (vI (g 21 0 k)) (vI 1) (by omega) (by omega) (by omega) (by omega) (by omega) (by omega) (by omega) (by omega)
                       rw [cif_f (by decide)] at e
                       exact e)
                · refine o_iload_n (n := 146) rfl rfl rfl ?_
                  refine o_if_eq (n := 149) (t := 153) rfl rfl rfl (fun k146 => ?_) (fun k146 => ?_)
                  · refine o_iconst (n := 154) rfl rfl ?_
                    refine o_iadd (n := 155) rfl rfl (by omega) ?_
                    refine o_istore_2 (n := 156) rfl rfl rfl ?_
                    refine o_iinc_4 (n := 159) rfl rfl rfl (by omega) ?_
                    refine o_goto (t := 9) rfl rfl ?_
                    first
                      | (exfalso; omega; done)
                      | (have hz : ld = 0 ∧ (97 ≤ g 21 0 k ∧ g 21 0 k ≤ 96 + g 8 0 5) ∧ v1 < 6 := by omega
                         obtain ⟨hz, hl, h6⟩ := hz
                         subst hz
                         rw [cif_t rfl, fr_l ⟨hl, h6⟩]
                         have e := ih (k + 1) (v1 + 1) (v2 + 0) 0 (vI (g 21 0 k)) (vI 1) (by omega) (by omega) (by omega) (by omega) (by omega) (by omega) (by omega) (by omega)
                         rw [cif_t rfl] at e
                         exact e)
                      | (have hz : ld = 1 ∧ (97 ≤ g 21 0 k ∧ g 21 0 k ≤ 96 + g 8 0 5) ∧ v2 < 6 := by omega
                         obtain ⟨hz, hl, h6⟩ := hz
                         subst hz
                         rw [cif_f (by decide), fr_l ⟨hl, h6⟩]
                         have e := ih (k + 1) (v1 + 0) (v2 + 1) 1 (vI (g 21 0 k)) (vI 1) (by omega) (by omega) (by omega) (by omega) (by omega) (by omega) (by omega) (by omega)
                         rw [cif_f (by decide)] at e
                         exact e)
                      | (have hz : ld = 0 ∧ ¬ (97 ≤ g 21 0 k ∧ g 21 0 k ≤ 96 + g 8 0 5) ∧ (g 21 0 k = 62 ∨ g 21 0 k = 61) ∧ 0 < v1 ∧ v2 = 0 := by omega
                         obtain ⟨hz, hl, h6, h7, h8⟩ := hz
                         subst hz
                         subst h8
                         rw [cif_t rfl, fr_a (fun z => hl z.1) ⟨h6, rfl, h7⟩]
                         have e := ih (k + 1) (v1 + 0) (0 + 0) 1 (vI (g 21 0 k)) (vI 1) (by omega) (by omega) (by omega) (by omega) (by omega) (by omega) (by omega) (by omega)
                         rw [cif_f (by decide)] at e
                         exact e)
                  · refine o_iconst (n := 150) rfl rfl ?_
                    refine o_goto (t := 154) rfl rfl ?_
                    refine o_iadd (n := 155) rfl rfl (by omega) ?_
                    refine o_istore_2 (n := 156) rfl rfl rfl ?_
                    refine o_iinc_4 (n := 159) rfl rfl rfl (by omega) ?_
                    refine o_goto (t := 9) rfl rfl ?_
                    first
                      | (exfalso; omega; done)
                      | (have hz : ld = 0 ∧ (97 ≤ g 21 0 k ∧ g 21 0 k ≤ 96 + g 8 0 5) ∧ v1 < 6 := by omega
                         obtain ⟨hz, hl, h6⟩ := hz
                         subst hz
                         rw [cif_t rfl, fr_l ⟨hl, h6⟩]
                         have e := ih (k + 1) (v1 + 1) (v2 + 0) 0 (vI (g 21 0 k)) (vI 1) (by omega) (by omega) (by omega) (by omega) (by omega) (by omega) (by omega) (by omega)
                         rw [cif_t rfl] at e
                         exact e)
                      | (have hz : ld = 1 ∧ (97 ≤ g 21 0 k ∧ g 21 0 k ≤ 96 + g 8 0 5) ∧ v2 < 6 := by omega
                         obtain ⟨hz, hl, h6⟩ := hz
                         subst hz
                         rw [cif_f (by decide), fr_l ⟨hl, h6⟩]
                         have e := ih (k + 1) (v1 + 0) (v2 + 1) 1 (vI (g 21 0 k)) (vI 1) (by omega) (by omega) (by omega) (by omega) (by omega) (by omega) (by omega) (by omega)
                         rw [cif_f (by decide)] at e
                         exact e)
                      | (have hz : ld = 0 ∧ ¬ (97 ≤ g 21 0 k ∧ g 21 0 k ≤ 96 + g 8 0 5) ∧ (g 21 0 k = 62 ∨ g 21 0 k = 61) ∧ 0 < v1 ∧ v2 = 0 := by omega
                         obtain ⟨hz, hl, h6, h7, h8⟩ := hz
                         subst hz
                         subst h8
                         rw [cif_t rfl, fr_a (fun z => hl z.1) ⟨h6, rfl, h7⟩]
                         have e := ih (k + 1) (v1 + 0) (0 + 0) 1 (vI (g 21 0 k)) (vI 1) (by omega) (by omega) (by omega) (by omega) (by omega) (by omega) (by omega) (by omega)
                         rw [cif_f (by decide)] at e
                         exact e)
              · refine o_iconst (n := 129) rfl rfl ?_
                refine o_goto (t := 133) rfl rfl ?_
                refine o_iadd (n := 134) rfl rfl (by omega) ?_
                refine o_istore_1 (n := 135) rfl rfl rfl ?_
                refine o_iload_n (n := 136) rfl rfl rfl ?_
                refine o_aload_n (n := 137) rfl rfl rfl ?_
                refine o_iload (n := 139) rfl rfl rfl ?_
                refine o_invi (n := 142) rfl rfl rfl rfl rfl rfl rfl rfl rfl rfl (c8_isSign _ hs0 hs1) ?_
                refine o_ifb_eq (n := 145) (t := 153) rfl rfl rfl (fun k142 => ?_) (fun k142 => ?_)
                · refine o_iconst (n := 154) rfl rfl ?_
                  refine o_iadd (n := 155) rfl rfl (by omega) ?_
                  refine o_istore_2 (n := 156) rfl rfl rfl ?_
                  refine o_iinc_4 (n := 159) rfl rfl rfl (by omega) ?_
                  refine o_goto (t := 9) rfl rfl ?_
                  first
                    | (exfalso; omega; done)
                    | (have hz : ld = 0 ∧ (97 ≤ g 21 0 k ∧ g 21 0 k ≤ 96 + g 8 0 5) ∧ v1 < 6 := by omega
                       obtain ⟨hz, hl, h6⟩ := hz
                       subst hz
                       rw [cif_t rfl, fr_l ⟨hl, h6⟩]
                       have e := ih (k + 1) (v1 + 1) (v2 + 0) 0 (vI (g 21 0 k)) (vI 1) (by omega) (by omega) (by omega) (by omega) (by omega) (by omega) (by omega) (by omega)
                       rw [cif_t rfl] at e
                       exact e)
                    | (have hz : ld = 1 ∧ (97 ≤ g 21 0 k ∧ g 21 0 k ≤ 96 + g 8 0 5) ∧ v2 < 6 := by omega
                       obtain ⟨hz, hl, h6⟩ := hz
                       subst hz
                       rw [cif_f (by decide), fr_l ⟨hl, h6⟩]
                       have e := ih (k + 1) (v1 + 0) (v2 + 1) 1 (vI (g 21 0 k)) (vI 1) (by omega) (by omega) (by omega) (by omega) (by omega) (by omega) (by omega) (by omega)
                       rw [cif_f (by decide)] at e
                       exact e)
                    | (have hz : ld = 0 ∧ ¬ (97 ≤ g 21 0 k ∧ g 21 0 k ≤ 96 + g 8 0 5) ∧ (g 21 0 k = 62 ∨ g 21 0 k = 61) ∧ 0 < v1 ∧ v2 = 0 := by omega
                       obtain ⟨hz, hl, h6, h7, h8⟩ := hz
                       subst hz
                       subst h8
                       rw [cif_t rfl, fr_a (fun z => hl z.1) ⟨h6, rfl, h7⟩]
                       have e := ih (k + 1) (v1 + 0) (0 + 0) 1 (vI (g 21 0 k)) (vI 1) (by omega) (by omega) (by omega) (by omega) (by omega) (by omega) (by omega) (by omega)
                       rw [cif_f (by decide)] at e
                       exact e)
                · refine o_iload_n (n := 146) rfl rfl rfl ?_
                  refine o_if_eq (n := 149) (t := 153) rfl rfl rfl (fun k146 => ?_) (fun k146 => ?_)
                  · refine o_iconst (n := 154) rfl rfl ?_
                    refine o_iadd (n := 155) rfl rfl (by omega) ?_
                    refine o_istore_2 (n := 156) rfl rfl rfl ?_
                    refine o_iinc_4 (n := 159) rfl rfl rfl (by omega) ?_
                    refine o_goto (t := 9) rfl rfl ?_
                    first
                      | (exfalso; omega; done)
                      | (have hz : ld = 0 ∧ (97 ≤ g 21 0 k ∧ g 21 0 k ≤ 96 + g 8 0 5) ∧ v1 < 6 := by omega
                         obtain ⟨hz, hl, h6⟩ := hz
                         subst hz
                         rw [cif_t rfl, fr_l ⟨hl, h6⟩]
                         have e := ih (k + 1) (v1 + 1) (v2 + 0) 0 (vI (g 21 0 k)) (vI 1) (by omega) (by omega) (by omega) (by omega) (by omega) (by omega) (by omega) (by omega)
                         rw [cif_t rfl] at e
                         exact e)
                      | (have hz : ld = 1 ∧ (97 ≤ g 21 0 k ∧ g 21 0 k ≤ 96 + g 8 0 5) ∧ v2 < 6 := by omega
                         obtain ⟨hz, hl, h6⟩ := hz
                         subst hz
                         rw [cif_f (by decide), fr_l ⟨hl, h6⟩]
                         have e := ih (k + 1) (v1 + 0) (v2 + 1) 1 (vI (g 21 0 k)) (vI 1) (by omega) (by omega) (by omega) (by omega) (by omega) (by omega) (by omega) (by omega)
                         rw [cif_f (by decide)] at e
                         exact e)
                      | (have hz : ld = 0 ∧ ¬ (97 ≤ g 21 0 k ∧ g 21 0 k ≤ 96 + g 8 0 5) ∧ (g 21 0 k = 62 ∨ g 21 0 k = 61) ∧ 0 < v1 ∧ v2 = 0 := by omega
                         obtain ⟨hz, hl, h6, h7, h8⟩ := hz
                         subst hz
                         subst h8
                         rw [cif_t rfl, fr_a (fun z => hl z.1) ⟨h6, rfl, h7⟩]
                         have e := ih (k + 1) (v1 + 0) (0 + 0) 1 (vI (g 21 0 k)) (vI 1) (by omega) (by omega) (by omega) (by omega) (by omega) (by omega) (by omega) (by omega)
                         rw [cif_f (by decide)] at e
                         exact e)
                  · refine o_iconst (n := 150) rfl rfl ?_
                    refine o_goto (t := 154) rfl rfl ?_
                    refine o_iadd (n := 155) rfl rfl (by omega) ?_
                    refine o_istore_2 (n := 156) rfl rfl rfl ?_
                    refine o_iinc_4 (n := 159) rfl rfl rfl (by omega) ?_
                    refine o_goto (t := 9) rfl rfl ?_
                    first
                      | (exfalso; omega; done)
                      | (have hz : ld = 0 ∧ (97 ≤ g 21 0 k ∧ g 21 0 k ≤ 96 + g 8 0 5) ∧ v1 < 6 := by omega
                         obtain ⟨hz, hl, h6⟩ := hz
                         subst hz
                         rw [cif_t rfl, fr_l ⟨hl, h6⟩]
                         have e := ih (k + 1) (v1 + 1) (v2 + 0) 0 (vI (g 21 0 k)) (vI 1) (by omega) (by omega) (by omega) (by omega) (by omega) (by omega) (by omega) (by omega)
                         rw [cif_t rfl] at e
                         exact e)
                      | (have hz : ld = 1 ∧ (97 ≤ g 21 0 k ∧ g 21 0 k ≤ 96 + g 8 0 5) ∧ v2 < 6 := by omega
                         obtain ⟨hz, hl, h6⟩ := hz
                         subst hz
                         rw [cif_f (by decide), fr_l ⟨hl, h6⟩]
                         have e := ih (k + 1) (v1 + 0) (v2 + 1) 1 (vI (g 21 0 k)) (vI 1) (by omega) (by omega) (by omega) (by omega) (by omega) (by omega) (by omega) (by omega)
                         rw [cif_f (by decide)] at e
                         exact e)
                      | (have hz : ld = 0 ∧ ¬ (97 ≤ g 21 0 k ∧ g 21 0 k ≤ 96 + g 8 0 5) ∧ (g 21 0 k = 62 ∨ g 21 0 k = 61) ∧ 0 < v1 ∧ v2 = 0 := by omega
                         obtain ⟨hz, hl, h6, h7, h8⟩ := hz
                         subst hz
                         subst h8
                         rw [cif_t rfl, fr_a (fun z => hl z.1) ⟨h6, rfl, h7⟩]
                         have e := ih (k + 1) (v1 + 0) (0 + 0) 1 (vI (g 21 0 k)) (vI 1) (by omega) (by omega) (by omega) (by omega) (by omega) (by omega) (by omega) (by omega)
                         rw [cif_f (by decide)] at e
                         exact e)
          · refine o_aload_n (n := 100) rfl rfl rfl ?_
            refine o_iload (n := 102) rfl rfl rfl ?_
            refine o_invi (n := 105) rfl rfl rfl rfl rfl rfl rfl rfl rfl rfl (c8_isSign _ hs0 hs1) ?_
            refine o_ifb_ne (n := 108) (t := 112) rfl rfl rfl (fun k105 => ?_) (fun k105 => ?_)
            · refine o_iconst (n := 113) rfl rfl ?_
              refine o_istore_3 (n := 114) rfl rfl rfl ?_
              refine o_iload_n (n := 115) rfl rfl rfl ?_
              refine o_aload_n (n := 116) rfl rfl rfl ?_
              refine o_iload (n := 118) rfl rfl rfl ?_
              refine o_invi (n := 121) rfl rfl rfl rfl rfl rfl rfl rfl rfl rfl (c8_isSign _ hs0 hs1) ?_
              refine o_ifb_eq (n := 124) (t := 132) rfl rfl rfl (fun k121 => ?_) (fun k121 => ?_)
              · refine o_iconst (n := 133) rfl rfl ?_
                refine o_iadd (n := 134) rfl rfl (by omega) ?_
                refine o_istore_1 (n := 135) rfl rfl rfl ?_
                refine o_iload_n (n := 136) rfl rfl rfl ?_
                refine o_aload_n (n := 137) rfl rfl rfl ?_
                refine o_iload (n := 139) rfl rfl rfl ?_
                refine o_invi (n := 142) rfl rfl rfl rfl rfl rfl rfl rfl rfl rfl (c8_isSign _ hs0 hs1) ?_
                refine o_ifb_eq (n := 145) (t := 153) rfl rfl rfl (fun k142 => ?_) (fun k142 => ?_)
                · refine o_iconst (n := 154) rfl rfl ?_
                  refine o_iadd (n := 155) rfl rfl (by omega) ?_
                  refine o_istore_2 (n := 156) rfl rfl rfl ?_
                  refine o_iinc_4 (n := 159) rfl rfl rfl (by omega) ?_
                  refine o_goto (t := 9) rfl rfl ?_
                  first
                    | (exfalso; omega; done)
                    | (have hz : ld = 0 ∧ (97 ≤ g 21 0 k ∧ g 21 0 k ≤ 96 + g 8 0 5) ∧ v1 < 6 := by omega
                       obtain ⟨hz, hl, h6⟩ := hz
                       subst hz
                       rw [cif_t rfl, fr_l ⟨hl, h6⟩]
                       have e := ih (k + 1) (v1 + 1) (v2 + 0) 0 (vI (g 21 0 k)) (vI 1) (by omega) (by omega) (by omega) (by omega) (by omega) (by omega) (by omega) (by omega)
                       rw [cif_t rfl] at e
                       exact e)
                    | (have hz : ld = 1 ∧ (97 ≤ g 21 0 k ∧ g 21 0 k ≤ 96 + g 8 0 5) ∧ v2 < 6 := by omega
                       obtain ⟨hz, hl, h6⟩ := hz
                       subst hz
                       rw [cif_f (by decide), fr_l ⟨hl, h6⟩]
                       have e := ih (k + 1) (v1 + 0) (v2 + 1) 1 (vI (g 21 0 k)) (vI 1) (by omega) (by omega) (by omega) (by omega) (by omega) (by omega) (by omega) (by omega)
                       rw [cif_f (by decide)] at e
                       exact e)
                    | (have hz : ld = 0 ∧ ¬ (97 ≤ g 21 0 k ∧ g 21 0 k ≤ 96 + g 8 0 5) ∧ (g 21 0 k = 62 ∨ g 21 0 k = 61) ∧ 0 < v1 ∧ v2 = 0 := by omega
                       obtain ⟨hz, hl, h6, h7, h8⟩ := hz
                       subst hz
                       subst h8
                       rw [cif_t rfl, fr_a (fun z => hl z.1) ⟨h6, rfl, h7⟩]
                       have e := ih (k + 1) (v1 + 0) (0 + 0) 1 (vI (g 21 0 k)) (vI 1) (by omega) (by omega) (by omega) (by omega) (by omega) (by omega) (by omega) (by omega)
                       rw [cif_f (by decide)] at e
                       exact e)
                · refine o_iload_n (n := 146) rfl rfl rfl ?_
                  refine o_if_eq (n := 149) (t := 153) rfl rfl rfl (fun k146 => ?_) (fun k146 => ?_)
                  · refine o_iconst (n := 154) rfl rfl ?_
                    refine o_iadd (n := 155) rfl rfl (by omega) ?_
                    refine o_istore_2 (n := 156) rfl rfl rfl ?_
                    refine o_iinc_4 (n := 159) rfl rfl rfl (by omega) ?_
                    refine o_goto (t := 9) rfl rfl ?_
                    first
                      | (exfalso; omega; done)
                      | (have hz : ld = 0 ∧ (97 ≤ g 21 0 k ∧ g 21 0 k ≤ 96 + g 8 0 5) ∧ v1 < 6 := by omega
                         obtain ⟨hz, hl, h6⟩ := hz
                         subst hz
                         rw [cif_t rfl, fr_l ⟨hl, h6⟩]
                         have e := ih (k + 1) (v1 + 1) (v2 + 0) 0 (vI (g 21 0 k)) (vI 1) (by omega) (by omega) (by omega) (by omega) (by omega) (by omega) (by omega) (by omega)
                         rw [cif_t rfl] at e
                         exact e)
                      | (have hz : ld = 1 ∧ (97 ≤ g 21 0 k ∧ g 21 0 k ≤ 96 + g 8 0 5) ∧ v2 < 6 := by omega
                         obtain ⟨hz, hl, h6⟩ := hz
                         subst hz
                         rw [cif_f (by decide), fr_l ⟨hl, h6⟩]
                         have e := ih (k + 1) (v1 + 0) (v2 + 1) 1 (vI (g 21 0 k)) (vI 1) (by omega) (by omega) (by omega) (by omega) (by omega) (by omega) (by omega) (by omega)
                         rw [cif_f (by decide)] at e
                         exact e)
                      | (have hz : ld = 0 ∧ ¬ (97 ≤ g 21 0 k ∧ g 21 0 k ≤ 96 + g 8 0 5) ∧ (g 21 0 k = 62 ∨ g 21 0 k = 61) ∧ 0 < v1 ∧ v2 = 0 := by omega
                         obtain ⟨hz, hl, h6, h7, h8⟩ := hz
                         subst hz
                         subst h8
                         rw [cif_t rfl, fr_a (fun z => hl z.1) ⟨h6, rfl, h7⟩]
                         have e := ih (k + 1) (v1 + 0) (0 + 0) 1 (vI (g 21 0 k)) (vI 1) (by omega) (by omega) (by omega) (by omega) (by omega) (by omega) (by omega) (by omega)
                         rw [cif_f (by decide)] at e
                         exact e)
                  · refine o_iconst (n := 150) rfl rfl ?_
                    refine o_goto (t := 154) rfl rfl ?_
                    refine o_iadd (n := 155) rfl rfl (by omega) ?_
                    refine o_istore_2 (n := 156) rfl rfl rfl ?_
                    refine o_iinc_4 (n := 159) rfl rfl rfl (by omega) ?_
                    refine o_goto (t := 9) rfl rfl ?_
                    first
                      | (exfalso; omega; done)
                      | (have hz : ld = 0 ∧ (97 ≤ g 21 0 k ∧ g 21 0 k ≤ 96 + g 8 0 5) ∧ v1 < 6 := by omega
                         obtain ⟨hz, hl, h6⟩ := hz
                         subst hz
                         rw [cif_t rfl, fr_l ⟨hl, h6⟩]
                         have e := ih (k + 1) (v1 + 1) (v2 + 0) 0 (vI (g 21 0 k)) (vI 1) (by omega) (by omega) (by omega) (by omega) (by omega) (by omega) (by omega) (by omega)
                         rw [cif_t rfl] at e
                         exact e)
                      | (have hz : ld = 1 ∧ (97 ≤ g 21 0 k ∧ g 21 0 k ≤ 96 + g 8 0 5) ∧ v2 < 6 := by omega
                         obtain ⟨hz, hl, h6⟩ := hz
                         subst hz
                         rw [cif_f (by decide), fr_l ⟨hl, h6⟩]
                         have e := ih (k + 1) (v1 + 0) (v2 + 1) 1 (vI (g 21 0 k)) (vI 1) (by omega) (by omega) (by omega) (by omega) (by omega) (by omega) (by omega) (by omega)
                         rw [cif_f (by decide)] at e
                         exact e)
                      | (have hz : ld = 0 ∧ ¬ (97 ≤ g 21 0 k ∧ g 21 0 k ≤ 96 + g 8 0 5) ∧ (g 21 0 k = 62 ∨ g 21 0 k = 61) ∧ 0 < v1 ∧ v2 = 0 := by omega
                         obtain ⟨hz, hl, h6, h7, h8⟩ := hz
                         subst hz
                         subst h8
                         rw [cif_t rfl, fr_a (fun z => hl z.1) ⟨h6, rfl, h7⟩]
                         have e := ih (k + 1) (v1 + 0) (0 + 0) 1 (vI (g 21 0 k)) (vI 1) (by omega) (by omega) (by omega) (by omega) (by omega) (by omega) (by omega) (by omega)
                         rw [cif_f (by decide)] at e
                         exact e)
              · refine o_iload_n (n := 125) rfl rfl rfl ?_
                refine o_if_ne (n := 128) (t := 132) rfl rfl rfl (fun k125 => ?_) (fun k125 => ?_)
                · refine o_iconst (n := 133) rfl rfl ?_
                  refine o_iadd (n := 134) rfl rfl (by omega) ?_
                  refine o_istore_1 (n := 135) rfl rfl rfl ?_
                  refine o_iload_n (n := 136) rfl rfl rfl ?_
                  refine o_aload_n (n := 137) rfl rfl rfl ?_
                  refine o_iload (n := 139) rfl rfl rfl ?_
                  refine o_invi (n := 142) rfl rfl rfl rfl rfl rfl rfl rfl rfl rfl (c8_isSign _ hs0 hs1) ?_
                  refine o_ifb_eq (n := 145) (t := 153) rfl rfl rfl (fun k142 => ?_) (fun k142 => ?_)
                  · refine o_iconst (n := 154) rfl rfl ?_
                    refine o_iadd (n := 155) rfl rfl (by omega) ?_
                    refine o_istore_2 (n := 156) rfl rfl rfl ?_
                    refine o_iinc_4 (n := 159) rfl rfl rfl (by omega) ?_
                    refine o_goto (t := 9) rfl rfl ?_
                    first
                      | (exfalso; omega; done)
                      | (have hz : ld = 0 ∧ (97 ≤ g 21 0 k ∧ g 21 0 k ≤ 96 + g 8 0 5) ∧ v1 < 6 := by omega
                         obtain ⟨hz, hl, h6⟩ := hz
                         subst hz
                         rw [cif_t rfl, fr_l ⟨hl, h6⟩]
                         have e := ih (k + 1) (v1 + 1) (v2 + 0) 0 (vI (g 21 0 k)) (vI 1) (by omega) (by omega) (by omega) (by omega) (by omega) (by omega) (by omega) (by omega)
                         rw [cif_t rfl] at e
                         exact e)
                      | (have hz : ld = 1 ∧ (97 ≤ g 21 0 k ∧ g 21 0 k ≤ 96 + g 8 0 5) ∧ v2 < 6 := by omega
                         obtain ⟨hz, hl, h6⟩ := hz
                         subst hz
                         rw [cif_f (by decide), fr_l ⟨hl, h6⟩]
                         have e := ih (k + 1) (v1 + 0) (v2 + 1) 1 (vI (g 21 0 k)) (vI 1) (by omega) (by omega) (by omega) (by omega) (by omega) (by omega) (by omega) (by omega)
                         rw [cif_f (by decide)] at e
                         exact e)
                      | (have hz : ld = 0 ∧ ¬ (97 ≤ g 21 0 k ∧ g 21 0 k ≤ 96 + g 8 0 5) ∧ (g 21 0 k = 62 ∨ g 21 0 k = 61) ∧ 0 < v1 ∧ v2 = 0 := by omega
                         obtain ⟨hz, hl, h6, h7, h8⟩ := hz
                         subst hz
                         subst h8
                         rw [cif_t rfl, fr_a (fun z => hl z.1) ⟨h6, rfl, h7⟩]
                         have e := ih (k + 1) (v1 + 0) (0 + 0) 1 (vI (g 21 0 k)) (vI 1) (by omega) (by omega) (by omega) (by omega) (by omega) (by omega) (by omega) (by omega)
                         rw [cif_f (by decide)] at e
                         exact e)
                  · refine o_iload_n (n := 146) rfl rfl rfl ?_
                    refine o_if_eq (n := 149) (t := 153) rfl rfl rfl (fun k146 => ?_) (fun k146 => ?_)
                    · refine o_iconst (n := 154) rfl rfl ?_
                      refine o_iadd (n := 155) rfl rfl (by omega) ?_
                      refine o_istore_2 (n := 156) rfl rfl rfl ?_
                      refine o_iinc_4 (n := 159) rfl rfl rfl (by omega) ?_
                      refine o_goto (t := 9) rfl rfl ?_
                      first
                        | (exfalso; omega; done)
                        | (have hz : ld = 0 ∧ (97 ≤ g 21 0 k ∧ g 21 0 k ≤ 96 + g 8 0 5) ∧ v1 < 6 := by omega
                           obtain ⟨hz, hl, h6⟩ := hz
                           subst hz
                           rw [cif_t rfl, fr_l ⟨hl, h6⟩]
                           have e := ih (k + 1) (v1 + 1) (v2 + 0) 0 (vI (g 21 0 k)) (vI 1) (by omega) (by omega) (by omega) (by omega) (by omega) (by omega) (by omega) (by omega)
                           rw [cif_t rfl] at e
                           exact e)
                        | (have hz : ld = 1 ∧ (97 ≤ g 21 0 k ∧ g 21 0 k ≤ 96 + g 8 0 5) ∧ v2 < 6 := by omega
                           obtain ⟨hz, hl, h6⟩ := hz
                           subst hz
                           rw [cif_f (by decide), fr_l ⟨hl, h6⟩]
                           have e := ih (k + 1) (v1 + 0) (v2 + 1) 1 (vI (g 21 0 k)) (vI 1) (by omega) (by omega) (by omega) (by omega) (by omega) (by omega) (by omega) (by omega)
                           rw [cif_f (by decide)] at e
                           exact e)
                        | (have hz : ld = 0 ∧ ¬ (97 ≤ g 21 0 k ∧ g 21 0 k ≤ 96 + g 8 0 5) ∧ (g 21 0 k = 62 ∨ g 21 0 k = 61) ∧ 0 < v1 ∧ v2 = 0 := by omega
                           obtain ⟨hz, hl, h6, h7, h8⟩ := hz
                           subst hz
                           subst h8
                           rw [cif_t rfl, fr_a (fun z => hl z.1) ⟨h6, rfl, h7⟩]
                           have e := ih (k + 1) (v1 + 0) (0 + 0) 1 (vI (g 21 0 k)) (vI 1) (by omega) (by omega) (by omega) (by omega) (by omega) (by omega) (by omega) (by omega)
                           rw [cif_f (by decide)] at e
                           exact e)
                    · refine o_iconst (n := 150) rfl rfl ?_
                      refine o_goto (t := 154) rfl rfl ?_
                      refine o_iadd (n := 155) rfl rfl (by omega) ?_
                      refine o_istore_2 (n := 156) rfl rfl rfl ?_
                      refine o_iinc_4 (n := 159) rfl rfl rfl (by omega) ?_
                      refine o_goto (t := 9) rfl rfl ?_
                      first
                        | (exfalso; omega; done)
                        | (have hz : ld = 0 ∧ (97 ≤ g 21 0 k ∧ g 21 0 k ≤ 96 + g 8 0 5) ∧ v1 < 6 := by omega
                           obtain ⟨hz, hl, h6⟩ := hz
                           subst hz
                           rw [cif_t rfl, fr_l ⟨hl, h6⟩]
                           have e := ih (k + 1) (v1 + 1) (v2 + 0) 0 (vI (g 21 0 k)) (vI 1) (by omega) (by omega) (by omega) (by omega) (by omega) (by omega) (by omega) (by omega)
                           rw [cif_t rfl] at e
                           exact e)
                        | (have hz : ld = 1 ∧ (97 ≤ g 21 0 k ∧ g 21 0 k ≤ 96 + g 8 0 5) ∧ v2 < 6 := by omega
                           obtain ⟨hz, hl, h6⟩ := hz
                           subst hz
                           rw [cif_f (by decide), fr_l ⟨hl, h6⟩]
                           have e := ih (k + 1) (v1 + 0) (v2 + 1) 1 (vI (g 21 0 k)) (vI 1) (by omega) (by omega) (by omega) (by omega) (by omega) (by omega) (by omega) (by omega)
                           rw [cif_f (by decide)] at e
                           exact e)
                        | (have hz : ld = 0 ∧ ¬ (97 ≤ g 21 0 k ∧ g 21 0 k ≤ 96 + g 8 0 5) ∧ (g 21 0 k = 62 ∨ g 21 0 k = 61) ∧ 0 < v1 ∧ v2 = 0 := by omega
                           obtain ⟨hz, hl, h6, h7, h8⟩ := hz
                           subst hz
                           subst h8
                           rw [cif_t rfl, fr_a (fun z => hl z.1) ⟨h6, rfl, h7⟩]
                           have e := ih (k + 1) (v1 + 0) (0 + 0) 1 (vI (g 21 0 k)) (vI 1) (by omega) (by omega) (by omega) (by omega) (by omega) (by omega) (by omega) (by omega)
                           rw [cif_f (by decide)] at e
                           exact e)
                · refine o_iconst (n := 129) rfl rfl ?_
                  refine o_goto (t := 133) rfl rfl ?_
                  refine o_iadd (n := 134) rfl rfl (by omega) ?_
                  refine o_istore_1 (n := 135) rfl rfl rfl ?_
                  refine o_iload_n (n := 136) rfl rfl rfl ?_
                  refine o_aload_n (n := 137) rfl rfl rfl ?_
                  refine o_iload (n := 139) rfl rfl rfl ?_
                  refine o_invi (n := 142) rfl rfl rfl rfl rfl rfl rfl rfl rfl rfl (c8_isSign _ hs0 hs1) ?_
                  refine o_ifb_eq (n := 145) (t := 153) rfl rfl rfl (fun k142 => ?_) (fun k142 => ?_)
                  · refine o_iconst (n := 154) rfl rfl ?_
                    refine o_iadd (n := 155) rfl rfl (by omega) ?_
                    refine o_istore_2 (n := 156) rfl rfl rfl ?_
                    refine o_iinc_4 (n := 159) rfl rfl rfl (by omega) ?_
                    refine o_goto (t := 9) rfl rfl ?_
                    first
                      | (exfalso; omega; done)
                      | (have hz : ld = 0 ∧ (97 ≤ g 21 0 k ∧ g 21 0 k ≤ 96 + g 8 0 5) ∧ v1 < 6 := by omega
                         obtain ⟨hz, hl, h6⟩ := hz
                         subst hz
                         rw [cif_t rfl, fr_l ⟨hl, h6⟩]
                         have e := ih (k + 1) (v1 + 1) (v2 + 0) 0 (vI (g 21 0 k)) (vI 1) (by omega) (by omega) (by omega) (by omega) (by omega) (by omega) (by omega) (by omega)
                         rw [cif_t rfl] at e
                         exact e)
                      | (have hz : ld = 1 ∧ (97 ≤ g 21 0 k ∧ g 21 0 k ≤ 96 + g 8 0 5) ∧ v2 < 6 := by omega
                         obtain ⟨hz, hl, h6⟩ := hz
                         subst hz
                         rw [cif_f (by decide), fr_l ⟨hl, h6⟩]
                         have e := ih (k + 1) (v1 + 0) (v2 + 1) 1 (vI (g 21 0 k)) (vI 1) (by omega) (by omega) (by omega) (by omega) (by omega) (by omega) (by omega) (by omega)
                         rw [cif_f (by decide)] at e
                         exact e)
                      | (have hz : ld = 0 ∧ ¬ (97 ≤ g 21 0 k ∧ g 21 0 k ≤ 96 + g 8 0 5) ∧ (g 21 0 k = 62 ∨ g 21 0 k = 61) ∧ 0 < v1 ∧ v2 = 0 := by omega
                         obtain ⟨hz, hl, h6, h7, h8⟩ := hz
                         subst hz
                         subst h8
                         rw [cif_t rfl, fr_a (fun z => hl z.1) ⟨h6, rfl, h7⟩]
                         have e := ih (k + 1) (v1 + 0) (0 + 0) 1 (vI (g 21 0 k)) (vI 1) (by omega) (by omega) (by omega) (by omega) (by omega) (by omega) (by omega) (by omega)
                         rw [cif_f (by decide)] at e
                         exact e)
                  · refine o_iload_n (n := 146) rfl rfl rfl ?_
                    refine o_if_eq (n := 149) (t := 153) rfl rfl rfl (fun k146 => ?_) (fun k146 => ?_)
                    · refine o_iconst (n := 154) rfl rfl ?_
                      refine o_iadd (n := 155) rfl rfl (by omega) ?_
                      refine o_istore_2 (n := 156) rfl rfl rfl ?_
                      refine o_iinc_4 (n := 159) rfl rfl rfl (by omega) ?_
                      refine o_goto (t := 9) rfl rfl ?_
                      first
                        | (exfalso; omega; done)
                        | (have hz : ld = 0 ∧ (97 ≤ g 21 0 k ∧ g 21 0 k ≤ 96 + g 8 0 5) ∧ v1 < 6 := by omega
                           obtain ⟨hz, hl, h6⟩ := hz
                           subst hz
                           rw [cif_t rfl, fr_l ⟨hl, h6⟩]
                           have e := ih (k + 1) (v1 + 1) (v2 + 0) 0 (vI (g 21 0 k)) (vI 1) (by omega) (by omega) (by omega) (by omega) (by omega) (by omega) (by omega) (by omega)
                           rw [cif_t rfl] at e
                           exact e)
                        | (have hz : ld = 1 ∧ (97 ≤ g 21 0 k ∧ g 21 0 k ≤ 96 + g 8 0 5) ∧ v2 < 6 := by omega
                           obtain ⟨hz, hl, h6⟩ := hz
                           subst hz
                           rw [cif_f (by decide), fr_l ⟨hl, h6⟩]
                           have e := ih (k + 1) (v1 + 0) (v2 + 1) 1 (vI (g 21 0 k)) (vI 1) (by omega) (by omega) (by omega) (by omega) (by omega) (by omega) (by omega) (by omega)
                           rw [cif_f (by decide)] at e
                           exact e)
                        | (have hz : ld = 0 ∧ ¬ (97 ≤ g 21 0 k ∧ g 21 0 k ≤ 96 + g 8 0 5) ∧ (g 21 0 k = 62 ∨ g 21 0 k = 61) ∧ 0 < v1 ∧ v2 = 0 := by omega
                           obtain ⟨hz, hl, h6, h7, h8⟩ := hz
                           subst hz
                           subst h8
                           rw [cif_t rfl, fr_a (fun z => hl z.1) ⟨h6, rfl, h7⟩]
                           have e := ih (k + 1) (v1 + 0) (0 + 0) 1 (vI (g 21 0 k)) (vI 1) (by omega) (by omega) (by omega) (by omega) (by omega) (by omega) (by omega) (by omega)
                           rw [cif_f (by decide)] at e
                           exact e)
                    · refine o_iconst (n := 150) rfl rfl ?_
                      refine o_goto (t := 154) rfl rfl ?_
                      refine o_iadd (n := 155) rfl rfl (by omega) ?_
                      refine o_istore_2 (n := 156) rfl rfl rfl ?_
                      refine o_iinc_4 (n := 159) rfl rfl rfl (by omega) ?_
                      refine o_goto (t := 9) rfl rfl ?_
                      first
                        | (exfalso; omega; done)
                        | (have hz : ld = 0 ∧ (97 ≤ g 21 0 k ∧ g 21 0 k ≤ 96 + g 8 0 5) ∧ v1 < 6 := by omega
                           obtain ⟨hz, hl, h6⟩ := hz
                           subst hz
                           rw [cif_t rfl, fr_l ⟨hl, h6⟩]
                           have e := ih (k + 1) (v1 + 1) (v2 + 0) 0 (vI (g 21 0 k)) (vI 1) (by omega) (by omega) (by omega) (by omega) (by omega) (by omega) (by omega) (by omega)
                           rw [cif_t rfl] at e
                           exact e)
                        | (have hz : ld = 1 ∧ (97 ≤ g 21 0 k ∧ g 21 0 k ≤ 96 + g 8 0 5) ∧ v2 < 6 := by omega
                           obtain ⟨hz, hl, h6⟩ := hz
                           subst hz
                           rw [cif_f (by decide), fr_l ⟨hl, h6⟩]
                           have e := ih (k + 1) (v1 + 0) (v2 + 1) 1 (vI (g 21 0 k)) (vI 1) (by omega) (by omega) (by omega) (by omega) (by omega) (by omega) (by omega) (by omega)
                           rw [cif_f (by decide)] at e
                           exact e)
                        | (have hz : ld = 0 ∧ ¬ (97 ≤ g 21 0 k ∧ g 21 0 k ≤ 96 + g 8 0 5) ∧ (g 21 0 k = 62 ∨ g 21 0 k = 61) ∧ 0 < v1 ∧ v2 = 0 := by omega
                           obtain ⟨hz, hl, h6, h7, h8⟩ := hz
                           subst hz
                           subst h8
                           rw [cif_t rfl, fr_a (fun z => hl z.1) ⟨h6, rfl, h7⟩]
                           have e := ih (k + 1) (v1 + 0) (0 + 0) 1 (vI (g 21 0 k)) (vI 1) (by omega) (by omega) (by omega) (by omega) (by omega) (by omega) (by omega) (by omega)
                           rw [cif_f (by decide)] at e
                           exact e)
            · refine o_iconst (n := 109) rfl rfl ?_
              refine o_goto (t := 113) rfl rfl ?_
              refine o_istore_3 (n := 114) rfl rfl rfl ?_
              refine o_iload_n (n := 115) rfl rfl rfl ?_
              refine o_aload_n (n := 116) rfl rfl rfl ?_
              refine o_iload (n := 118) rfl rfl rfl ?_
              refine o_invi (n := 121) rfl rfl rfl rfl rfl rfl rfl rfl rfl rfl (c8_isSign _ hs0 hs1) ?_
              refine o_ifb_eq (n := 124) (t := 132) rfl rfl rfl (fun k121 => ?_) (fun k121 => ?_)
              · refine o_iconst (n := 133) rfl rfl ?_
                refine o_iadd (n := 134) rfl rfl (by omega) ?_
                refine o_istore_1 (n := 135) rfl rfl rfl ?_
                refine o_iload_n (n := 136) rfl rfl rfl ?_
                refine o_aload_n (n := 137) rfl rfl rfl ?_
                refine o_iload (n := 139) rfl rfl rfl ?_
                refine o_invi (n := 142) rfl rfl rfl rfl rfl rfl rfl rfl rfl rfl (c8_isSign _ hs0 hs1) ?_
                refine o_ifb_eq (n := 145) (t := 153) rfl rfl rfl (fun k142 => ?_) (fun k142 => ?_)
                · refine o_iconst (n := 154) rfl rfl ?_
                  refine o_iadd (n := 155) rfl rfl (by omega) ?_
                  refine o_istore_2 (n := 156) rfl rfl rfl ?_
                  refine o_iinc_4 (n := 159) rfl rfl rfl (by omega) ?_
                  refine o_goto (t := 9) rfl rfl ?_
                  first
                    | (exfalso; omega; done)
                    | (have hz : ld = 0 ∧ (97 ≤ g 21 0 k ∧ g 21 0 k ≤ 96 + g 8 0 5) ∧ v1 < 6 := by omega
                       obtain ⟨hz, hl, h6⟩ := hz
                       subst hz
                       rw [cif_t rfl, fr_l ⟨hl, h6⟩]
                       have e := ih (k + 1) (v1 + 1) (v2 + 0) 0 (vI (g 21 0 k)) (vI 1) (by omega) (by omega) (by omega) (by omega) (by omega) (by omega) (by omega) (by omega)
                       rw [cif_t rfl] at e
                       exact e)
                    | (have hz : ld = 1 ∧ (97 ≤ g 21 0 k ∧ g 21 0 k ≤ 96 + g 8 0 5) ∧ v2 < 6 := by omega
                       obtain ⟨hz, hl, h6⟩ := hz
                       subst hz
                       rw [cif_f (by decide), fr_l ⟨hl, h6⟩]
                       have e := ih (k + 1) (v1 + 0) (v2 + 1) 1 (vI (g 21 0 k)) (vI 1) (by omega) (by omega) (by omega) (by omega) (by omega) (by omega) (by omega) (by omega)
                       rw [cif_f (by decide)] at e
                       exact e)
                    | (have hz : ld = 0 ∧ ¬ (97 ≤ g 21 0 k ∧ g 21 0 k ≤ 96 + g 8 0 5) ∧ (g 21 0 k = 62 ∨ g 21 0 k = 61) ∧ 0 < v1 ∧ v2 = 0 := by omega
                       obtain ⟨hz, hl, h6, h7, h8⟩ := hz
                       subst hz
                       subst h8
                       rw [cif_t rfl, fr_a (fun z => hl z.1) ⟨h6, rfl, h7⟩]
                       have e := ih (k + 1) (v1 + 0) (0 + 0) 1 (vI (g 21 0 k)) (vI 1) (by omega) (by omega) (by omega) (by omega) (by omega) (by omega) (by omega) (by omega)
                       rw [cif_f (by decide)] at e
                       exact e)
                · refine o_iload_n (n := 146) rfl rfl rfl ?_
                  refine o_if_eq (n := 149) (t := 153) rfl rfl rfl (fun k146 => ?_) (fun k146 => ?_)
                  · refine o_iconst (n := 154) rfl rfl ?_
                    refine o_iadd (n := 155) rfl rfl (by omega) ?_
                    refine o_istore_2 (n := 156) rfl rfl rfl ?_
                    refine o_iinc_4 (n := 159) rfl rfl rfl (by omega) ?_
                    refine o_goto (t := 9) rfl rfl ?_
                    first
                      | (exfalso; omega; done)
                      | (have hz : ld = 0 ∧ (97 ≤ g 21 0 k ∧ g 21 0 k ≤ 96 + g 8 0 5) ∧ v1 < 6 := by omega
                         obtain ⟨hz, hl, h6⟩ := hz
                         subst hz
                         rw [cif_t rfl, fr_l ⟨hl, h6⟩]
                         have e := ih (k + 1) (v1 + 1) (v2 + 0) 0 (vI (g 21 0 k)) (vI 1) (by omega) (by omega) (by omega) (by omega) (by omega) (by omega) (by omega) (by omega)
                         rw [cif_t rfl] at e
                         exact e)
                      | (have hz : ld = 1 ∧ (97 ≤ g 21 0 k ∧ g 21 0 k ≤ 96 + g 8 0 5) ∧ v2 < 6 := by omega
                         obtain ⟨hz, hl, h6⟩ := hz
                         subst hz
                         rw [cif_f (by decide), fr_l ⟨hl, h6⟩]
                         have e := ih (k + 1) (v1 + 0) (v2 + 1) 1 (vI (g 21 0 k)) (vI 1) (by omega) (by omega) (by omega) (by omega) (by omega) (by omega) (by omega) (by omega)
                         rw [cif_f (by decide)] at e
                         exact e)
                      | (have hz : ld = 0 ∧ ¬ (97 ≤ g 21 0 k ∧ g 21 0 k ≤ 96 + g 8 0 5) ∧ (g 21 0 k = 62 ∨ g 21 0 k = 61) ∧ 0 < v1 ∧ v2 = 0 := by omega
                         obtain ⟨hz, hl, h6, h7, h8⟩ := hz
                         subst hz
                         subst h8
                         rw [cif_t rfl, fr_a (fun z => hl z.1) ⟨h6, rfl, h7⟩]
                         have e := ih (k + 1) (v1 + 0) (0 + 0) 1 (vI (g 21 0 k)) (vI 1) (by omega) (by omega) (by omega) (by omega) (by omega) (by omega) (by omega) (by omega)
                         rw [cif_f (by decide)] at e
                         exact e)
                  · refine o_iconst (n := 150) rfl rfl ?_
                    refine o_goto (t := 154) rfl rfl ?_
                    refine o_iadd (n := 155) rfl rfl (by omega) ?_
                    refine o_istore_2 (n := 156) rfl rfl rfl ?_
                    refine o_iinc_4 (n := 159) rfl rfl rfl (by omega) ?_
                    refine o_goto (t := 9) rfl rfl ?_
                    first
                      | (exfalso; omega; done)
                      | (have hz : ld = 0 ∧ (97 ≤ g 21 0 k ∧ g 21 0 k ≤ 96 + g 8 0 5) ∧ v1 < 6 := by omega
                         obtain ⟨hz, hl, h6⟩ := hz
                         subst hz
                         rw [cif_t rfl, fr_l ⟨hl, h6⟩]
                         have e := ih (k + 1) (v1 + 1) (v2 + 0) 0 (vI (g 21 0 k)) (vI 1) (by omega) (by omega) (by omega) (by omega) (by omega) (by omega) (by omega) (by omega)
                         rw [cif_t rfl] at e
                         exact e)
                      | (have hz : ld = 1 ∧ (97 ≤ g 21 0 k ∧ g 21 0 k ≤ 96 + g 8 0 5) ∧ v2 < 6 := by omega
                         obtain ⟨hz, hl, h6⟩ := hz
                         subst hz
                         rw [cif_f (by decide), fr_l ⟨hl, h6⟩]
                         have e := ih (k + 1) (v1 + 0) (v2 + 1) 1 (vI (g 21 0 k)) (vI 1) (by omega) (by omega) (by omega) (by omega) (by omega) (by omega) (by omega) (by omega)
                         rw [cif_f (by decide)] at e
                         exact e)
                      | (have hz : ld = 0 ∧ ¬ (97 ≤ g 21 0 k ∧ g 21 0 k ≤ 96 + g 8 0 5) ∧ (g 21 0 k = 62 ∨ g 21 0 k = 61) ∧ 0 < v1 ∧ v2 = 0 := by omega
                         obtain ⟨hz, hl, h6, h7, h8⟩ := hz
                         subst hz
                         subst h8
                         rw [cif_t rfl, fr_a (fun z => hl z.1) ⟨h6, rfl, h7⟩]
                         have e := ih (k + 1) (v1 + 0) (0 + 0) 1 (vI (g 21 0 k)) (vI 1) (by omega) (by omega) (by omega) (by omega) (by omega) (by omega) (by omega) (by omega)
                         rw [cif_f (by decide)] at e
                         exact e)
              · refine o_iload_n (n := 125) rfl rfl rfl ?_
                refine o_if_ne (n := 128) (t := 132) rfl rfl rfl (fun k125 => ?_) (fun k125 => ?_)
                · refine o_iconst (n := 133) rfl rfl ?_
                  refine o_iadd (n := 134) rfl rfl (by omega) ?_
                  refine o_istore_1 (n := 135) rfl rfl rfl ?_
                  refine o_iload_n (n := 136) rfl rfl rfl ?_
                  refine o_aload_n (n := 137) rfl rfl rfl ?_
                  refine o_iload (n := 139) rfl rfl rfl ?_
                  refine o_invi (n := 142) rfl rfl rfl rfl rfl rfl rfl rfl rfl rfl (c8_isSign _ hs0 hs1) ?_
                  refine o_ifb_eq (n := 145) (t := 153) rfl rfl rfl (fun k142 => ?_) (fun k142 => ?_)
                  · refine o_iconst (n := 154) rfl rfl ?_
                    refine o_iadd (n := 155) rfl rfl (by omega) ?_
                    refine o_istore_2 (n := 156) rfl rfl rfl ?_
                    refine o_iinc_4 (n := 159) rfl rfl rfl (by omega) ?_
                    refine o_goto (t := 9) rfl rfl ?_
                    first
                      | (exfalso; omega; done)
                      | (have hz : ld = 0 ∧ (97 ≤ g 21 0 k ∧ g 21 0 k ≤ 96 + g 8 0 5) ∧ v1 < 6 := by omega
                         obtain ⟨hz, hl, h6⟩ := hz
                         subst hz
                         rw [cif_t rfl, fr_l ⟨hl, h6⟩]
                         have e := ih (k + 1) (v1 + 1) (v2 + 0) 0 (vI (g 21 0 k)) (vI 1) (by omega) (by omega) (by omega) (by omega) (by omega) (by omega) (by omega) (by omega)
                         rw [cif_t rfl] at e
                         exact e)
                      | (have hz : ld = 1 ∧ (97 ≤ g 21 0 k ∧ g 21 0 k ≤ 96 + g 8 0 5) ∧ v2 < 6 := by omega
                         obtain ⟨hz, hl, h6⟩ := hz
                         subst hz
                         rw [cif_f (by decide), fr_l ⟨hl, h6⟩]
                         have e := ih (k + 1) (v1 + 0) (v2 + 1) 1 (vI (g 21 0 k)) (vI 1) (by omega) (by omega) (by omega) (by omega) (by omega) (by omega) (by omega) (by omega)
                         rw [cif_f (by decide)] at e
                         exact e)
                      | (have hz : ld = 0 ∧ ¬ (97 ≤ g 21 0 k ∧ g 21 0 k ≤ 96 + g 8 0 5) ∧ (g 21 0 k = 62 ∨ g 21 0 k = 61) ∧ 0 < v1 ∧ v2 = 0 := by omega
                         obtain ⟨hz, hl, h6, h7, h8⟩ := hz
                         subst hz
                         subst h8
                         rw [cif_t rfl, fr_a (fun z => hl z.1) ⟨h6, rfl, h7⟩]
                         have e := ih (k + 1) (v1 + 0) (0 + 0) 1 (vI (g 21 0 k)) (vI 1) (by omega) (by omega) (by omega) (by omega) (by omega) (by omega) (by omega) (by omega)
                         rw [cif_f (by decide)] at e
                         exact e)
                  · refine o_iload_n (n := 146) rfl rfl rfl ?_
                    refine o_if_eq (n := 149) (t := 153) rfl rfl rfl (fun k146 => ?_) (fun k146 => ?_)
                    · refine o_iconst (n := 154) rfl rfl ?_
                      refine o_iadd (n := 155) rfl rfl (by omega) ?_
                      refine o_istore_2 (n := 156) rfl rfl rfl ?_
                      refine o_iinc_4 (n := 159) rfl rfl rfl (by omega) ?_
                      refine o_goto (t := 9) rfl rfl ?_
                      first
                        | (exfalso; omega; done)
                        | (have hz : ld = 0 ∧ (97 ≤ g 21 0 k ∧ g 21 0 k ≤ 96 + g 8 0 5) ∧ v1 < 6 := by omega
                           obtain ⟨hz, hl, h6⟩ := hz
                           subst hz
                           rw [cif_t rfl, fr_l ⟨hl, h6⟩]
                           have e := ih (k + 1) (v1 + 1) (v2 + 0) 0 (vI (g 21 0 k)) (vI 1) (by omega) (by omega) (by omega) (by omega) (by omega) (by omega) (by omega) (by omega)
                           rw [cif_t rfl] at e
                           exact e)
                        | (have hz : ld = 1 ∧ (97 ≤ g 21 0 k ∧ g 21 0 k ≤ 96 + g 8 0 5) ∧ v2 < 6 := by omega
                           obtain ⟨hz, hl, h6⟩ := hz
                           subst hz
                           rw [cif_f (by decide), fr_l ⟨hl, h6⟩]
                           have e := ih (k + 1) (v1 + 0) (v2 + 1) 1 (vI (g 21 0 k)) (vI 1) (by omega) (by omega) (by omega) (by omega) (by omega) (by omega) (by omega) (by omega)
                           rw [cif_f (by decide)] at e
                           exact e)
                        | (have hz : ld = 0 ∧ ¬ (97 ≤ g 21 0 k ∧ g 21 0 k ≤ 96 + g 8 0 5) ∧ (g 21 0 k = 62 ∨ g 21 0 k = 61) ∧ 0 < v1 ∧ v2 = 0 := by omega
                           obtain ⟨hz, hl, h6, h7, h8⟩ := hz
                           subst hz
                           subst h8
                           rw [cif_t rfl, fr_a (fun z => hl z.1) ⟨h6, rfl, h7⟩]
                           have e := ih (k + 1) (v1 + 0) (0 + 0) 1 (vI (g 21 0 k)) (vI 1) (by omega) (by omega) (by omega) (by omega) (by omega) (by omega) (by omega) (by omega)
                           rw [cif_f (by decide)] at e
                           exact e)
                    · refine o_iconst (n := 150) rfl rfl ?_
                      refine o_goto (t := 154) rfl rfl ?_
                      refine o_iadd (n := 155) rfl rfl (by omega) ?_
                      refine o_istore_2 (n := 156) rfl rfl rfl ?_
                      refine o_iinc_4 (n := 159) rfl rfl rfl (by omega) ?_
                      refine o_goto (t := 9) rfl rfl ?_
                      first
                        | (exfalso; omega; done)
                        | (have hz : ld = 0 ∧ (97 ≤ g 21 0 k ∧ g 21 0 k ≤ 96 + g 8 0 5) ∧ v1 < 6 := by omega
                           obtain ⟨hz, hl, h6⟩ := hz
                           subst hz
                           rw [cif_t rfl, fr_l ⟨hl, h6⟩]
                           have e := ih (k + 1) (v1 + 1) (v2 + 0) 0 (vI (g 21 0 k)) (vI 1) (by omega) (by omega) (by omega) (by omega) (by omega) (by omega) (by omega) (by omega)
                           rw [cif_t rfl] at e
                           exact e)
                        | (have hz : ld = 1 ∧ (97 ≤ g 21 0 k ∧ g 21 0 k ≤ 96 + g 8 0 5) ∧ v2 < 6 := by omega
                           obtain ⟨hz, hl, h6⟩ := hz
                           subst hz
                           rw [cif_f (by decide), fr_l ⟨hl, h6⟩]
                           have e := ih (k + 1) (v1 + 0) (v2 + 1) 1 (vI (g 21 0 k)) (vI 1) (by omega) (by omega) (by omega) (by omega) (by omega) (by omega) (by omega) (by omega)
                           rw [cif_f (by decide)] at e
                           exact e)
                        | (have hz : ld = 0 ∧ ¬ (97 ≤ g 21 0 k ∧ g 21 0 k ≤ 96 + g 8 0 5) ∧ (g 21 0 k = 62 ∨ g 21 0 k = 61) ∧ 0 < v1 ∧ v2 = 0 := by omega
                           obtain ⟨hz, hl, h6, h7, h8⟩ := hz
                           subst hz
                           subst h8
                           rw [cif_t rfl, fr_a (fun z => hl z.1) ⟨h6, rfl, h7⟩]
                           have e := ih (k + 1) (v1 + 0) (0 + 0) 1 (vI (g 21 0 k)) (vI 1) (by omega) (by omega) (by omega) (by omega) (by omega) (by omega) (by omega) (by omega)
                           rw [cif_f (by decide)] at e
                           exact e)
                · refine o_iconst (n := 129) rfl rfl ?_
                  refine o_goto (t := 133) rfl rfl ?_
                  refine o_iadd (n := 134) rfl rfl (by omega) ?_
                  refine o_istore_1 (n := 135) rfl rfl rfl ?_
                  refine o_iload_n (n := 136) rfl rfl rfl ?_
                  refine o_aload_n (n := 137) rfl rfl rfl ?_
                  refine o_iload (n := 139) rfl rfl rfl ?_
                  refine o_invi (n := 142) rfl rfl rfl rfl rfl rfl rfl rfl rfl rfl (c8_isSign _ hs0 hs1) ?_
                  refine o_ifb_eq (n := 145) (t := 153) rfl rfl rfl (fun k142 => ?_) (fun k142 => ?_)
                  · refine o_iconst (n := 154) rfl rfl ?_
                    refine o_iadd (n := 155) rfl rfl (by omega) ?_
                    refine o_istore_2 (n := 156) rfl rfl rfl ?_
                    refine o_iinc_4 (n := 159) rfl rfl rfl (by omega) ?_
                    refine o_goto (t := 9) rfl rfl ?_
                    first
                      | (exfalso; omega; done)
                      | (have hz : ld = 0 ∧ (97 ≤ g 21 0 k ∧ g 21 0 k ≤ 96 + g 8 0 5) ∧ v1 < 6 := by omega
                         obtain ⟨hz, hl, h6⟩ := hz
                         subst hz
                         rw [cif_t rfl, fr_l ⟨hl, h6⟩]
                         have e := ih (k + 1) (v1 + 1) (v2 + 0) 0 (vI (g 21 0 k)) (vI 1) (by omega) (by omega) (by omega) (by omega) (by omega) (by omega) (by omega) (by omega)
                         rw [cif_t rfl] at e
                         exact e)
                      | (have hz : ld = 1 ∧ (97 ≤ g 21 0 k ∧ g 21 0 k ≤ 96 + g 8 0 5) ∧ v2 < 6 := by omega
                         obtain ⟨hz, hl, h6⟩ := hz
                         subst hz
                         rw [cif_f (by decide), fr_l ⟨hl, h6⟩]
                         have e := ih (k + 1) (v1 + 0) (v2 + 1) 1 (vI (g 21 0 k)) (vI 1) (by omega) (by omega) (by omega) (by omega) (by omega) (by omega) (by omega) (by omega)
                         rw [cif_f (by decide)] at e
                         exact e)
                      | (have hz : ld = 0 ∧ ¬ (97 ≤ g 21 0 k ∧ g 21 0 k ≤ 96 + g 8 0 5) ∧ (g 21 0 k = 62 ∨ g 21 0 k = 61) ∧ 0 < v1 ∧ v2 = 0 := by omega
                         obtain ⟨hz, hl, h6, h7, h8⟩ := hz
                         subst hz
                         subst h8
                         rw [cif_t rfl, fr_a (fun z => hl z.1) ⟨h6, rfl, h7⟩]
                         have e := ih (k + 1) (v1 + 0) (0 + 0) 1 (vI (g 21 0 k)) (vI 1) (by omega) (by omega) (by omega) (by omega) (by omega) (by omega) (by omega) (by omega)
                         rw [cif_f (by decide)] at e
                         exact e)
                  · refine o_iload_n (n := 146) rfl rfl rfl ?_
                    refine o_if_eq (n := 149) (t := 153) rfl rfl rfl (fun k146 => ?_) (fun k146 => ?_)
                    · refine o_iconst (n := 154) rfl rfl ?_
                      refine o_iadd (n := 155) rfl rfl (by omega) ?_
                      refine o_istore_2 (n := 156) rfl rfl rfl ?_
                      refine o_iinc_4 (n := 159) rfl rfl rfl (by omega) ?_
                      refine o_goto (t := 9) rfl rfl ?_
                      first
                        | (exfalso; omega; done)
                        | (have hz : ld = 0 ∧ (97 ≤ g 21 0 k ∧ g 21 0 k ≤ 96 + g 8 0 5) ∧ v1 < 6 := by omega
                           obtain ⟨hz, hl, h6⟩ := hz
                           subst hz
                           rw [cif_t rfl, fr_l ⟨hl, h6⟩]
                           have e := ih (k + 1) (v1 + 1) (v2 + 0) 0 (vI (g 21 0 k)) (vI 1) (by omega) (by omega) (by omega) (by omega) (by omega) (by omega) (by omega) (by omega)
                           rw [cif_t rfl] at e
                           exact e)
                        | (have hz : ld = 1 ∧ (97 ≤ g 21 0 k ∧ g 21 0 k ≤ 96 + g 8 0 5) ∧ v2 < 6 := by omega
                           obtain ⟨hz, hl, h6⟩ := hz
                           subst hz
                           rw [cif_f (by decide), fr_l ⟨hl, h6⟩]
                           have e := ih (k + 1) (v1 + 0) (v2 + 1) 1 (vI (g 21 0 k)) (vI 1) (by omega) (by omega) (by omega) (by omega) (by omega) (by omega) (by omega) (by omega)
                           rw [cif_f (by decide)] at e
                           exact e)
                        | (have hz : ld = 0 ∧ ¬ (97 ≤ g 21 0 k ∧ g 21 0 k ≤ 96 + g 8 0 5) ∧ (g 21 0 k = 62 ∨ g 21 0 k = 61) ∧ 0 < v1 ∧ v2 = 0 := by omega
                           obtain ⟨hz, hl, h6, h7, h8⟩ := hz
                           subst hz
                           subst h8
                           rw [cif_t rfl, fr_a (fun z => hl z.1) ⟨h6, rfl, h7⟩]
                           have e := ih (k + 1) (v1 + 0) (0 + 0) 1 (vI (g 21 0 k)) (vI 1) (by omega) (by omega) (by omega) (by omega) (by omega) (by omega) (by omega) (by omega)
                           rw [cif_f (by decide)] at e
                           exact e)
                    · refine o_iconst (n := 150) rfl rfl ?_
                      refine o_goto (t := 154) rfl rfl ?_
                      refine o_iadd (n := 155) rfl rfl (by omega) ?_
                      refine o_istore_2 (n := 156) rfl rfl rfl ?_
                      refine o_iinc_4 (n := 159) rfl rfl rfl (by omega) ?_
                      refine o_goto (t := 9) rfl rfl ?_
                      first
                        | (exfalso; omega; done)
                        | (have hz : ld = 0 ∧ (97 ≤ g 21 0 k ∧ g 21 0 k ≤ 96 + g 8 0 5) ∧ v1 < 6 := by omega
                           obtain ⟨hz, hl, h6⟩ := hz
                           subst hz
                           rw [cif_t rfl, fr_l ⟨hl, h6⟩]
                           have e := ih (k + 1) (v1 + 1) (v2 + 0) 0 (vI (g 21 0 k)) (vI 1) (by omega) (by omega) (by omega) (by omega) (by omega) (by omega) (by omega) (by omega)
                           rw [cif_t rfl] at e
                           exact e)
                        | (have hz : ld = 1 ∧ (97 ≤ g 21 0 k ∧ g 21 0 k ≤ 96 + g 8 0 5) ∧ v2 < 6 := by omega
                           obtain ⟨hz, hl, h6⟩ := hz
                           subst hz
                           rw [cif_f (by decide), fr_l ⟨hl, h6⟩]
                           have e := ih (k + 1) (v1 + 0) (v2 + 1) 1 (vI (g 21 0 k)) (vI 1) (by omega) (by omega) (by omega) (by omega) (by omega) (by omega) (by omega) (by omega)
                           rw [cif_f (by decide)] at e
                           exact e)
                        | (have hz : ld = 0 ∧ ¬ (97 ≤ g 21 0 k ∧ g 21 0 k ≤ 96 + g 8 0 5) ∧ (g 21 0 k = 62 ∨ g 21 0 k = 61) ∧ 0 < v1 ∧ v2 = 0 := by omega
                           obtain ⟨hz, hl, h6, h7, h8⟩ := hz
                           subst hz
                           subst h8
                           rw [cif_t rfl, fr_a (fun z => hl z.1) ⟨h6, rfl, h7⟩]
                           have e := ih (k + 1) (v1 + 0) (0 + 0) 1 (vI (g 21 0 k)) (vI 1) (by omega) (by omega) (by omega) (by omega) (by omega) (by omega) (by omega) (by omega)
                           rw [cif_f (by decide)] at e
                           exact e)
        · refine o_iload (n := 94) rfl rfl rfl ?_
          refine o_iret rfl rfl ?_
          first
            | (exfalso; omega; done)
            | (refine ⟨congrArg (fun z => some (vI z)) ?_, rfl, rfl⟩
               by_cases hz : ld = 0
               · rw [cif_t hz, fr_x (by omega) (by omega)]
               · rw [cif_f hz, fr_x (by omega) (by omega)])
      · refine o_iload_n (n := 63) rfl rfl rfl ?_
        refine o_if_le (n := 66) (t := 84) rfl rfl rfl (fun k63 => ?_) (fun k63 => ?_)
        · refine o_iconst (n := 85) rfl rfl ?_
          refine o_istore_6 (n := 87) rfl rfl rfl ?_
          refine o_iload (n := 89) rfl rfl rfl ?_
          refine o_if_ne (n := 92) (t := 95) rfl rfl rfl (fun k89 => ?_) (fun k89 => ?_)
          · refine o_iload_n (n := 96) rfl rfl rfl ?_
            refine o_if_ne (n := 99) (t := 108) rfl rfl rfl (fun k96 => ?_) (fun k96 => ?_)
            · refine o_iconst (n := 109) rfl rfl ?_
              refine o_goto (t := 113) rfl rfl ?_
              refine o_istore_3 (n := 114) rfl rfl rfl ?_
              refine o_iload_n (n := 115) rfl rfl rfl ?_
              refine o_aload_n (n := 116) rfl rfl rfl ?_
              refine o_iload (n := 118) rfl rfl rfl ?_
              refine o_invi (n := 121) rfl rfl rfl rfl rfl rfl rfl rfl rfl rfl (c8_isSign _ hs0 hs1) ?_
              refine o_ifb_eq (n := 124) (t := 132) rfl rfl rfl (fun k121 => ?_) (fun k121 => ?_)
              · refine o_iconst (n := 133) rfl rfl ?_
                refine o_iadd (n := 134) rfl rfl (by omega) ?_
                refine o_istore_1 (n := 135) rfl rfl rfl ?_
                refine o_iload_n (n := 136) rfl rfl rfl ?_
                refine o_aload_n (n := 137) rfl rfl rfl ?_
                refine o_iload (n := 139) rfl rfl rfl ?_
                refine o_invi (n := 142) rfl rfl rfl rfl rfl rfl rfl rfl rfl rfl (c8_isSign _ hs0 hs1) ?_
                refine o_ifb_eq (n := 145) (t := 153) rfl rfl rfl (fun k142 => ?_) (fun k142 => ?_)
                · refine o_iconst (n := 154) rfl rfl ?_
                  refine o_iadd (n := 155) rfl rfl (by omega) ?_
                  refine o_istore_2 (n := 156) rfl rfl rfl ?_
                  refine o_iinc_4 (n := 159) rfl rfl rfl (by omega) ?_
                  refine o_goto (t := 9) rfl rfl ?_
                  first
                    | (exfalso; omega; done)
                    | (have hz : ld = 0 ∧ (97 ≤ g 21 0 k ∧ g 21 0 k ≤ 96 + g 8 0 5) ∧ v1 < 6 := by omega
                       obtain ⟨hz, hl, h6⟩ := hz
                       subst hz
                       rw [cif_t rfl, fr_l ⟨hl, h6⟩]
                       have e := ih (k + 1) (v1 + 1) (v2 + 0) 0 (vI (g 21 0 k)) (vI 1) (by omega) (by omega) (by omega) (by omega) (by omega) (by omega) (by omega) (by omega)
                       rw [cif_t rfl] at e
                       exact e)
                    | (have hz : ld = 1 ∧ (97 ≤ g 21 0 k ∧ g 21 0 k ≤ 96 + g 8 0 5) ∧ v2 < 6 := by omega
                       obtain ⟨hz, hl, h6⟩ := hz
                       subst hz
                       rw [cif_f (by decide), fr_l ⟨hl, h6⟩]
                       have e := ih (k + 1) (v1 + 0) (v2 + 1) 1 (vI (g 21 0 k)) (vI 1) (by omega) (by omega) (by omega) (by omega) (by omega) (by omega) (by omega) (by omega)
                       rw [cif_f (by decide)] at e
                       exact e)
                    | (have hz : ld = 0 ∧ ¬ (97 ≤ g 21 0 k ∧ g 21 0 k ≤ 96 + g 8 0 5) ∧ (g 21 0 k = 62 ∨ g 21 0 k = 61) ∧ 0 < v1 ∧ v2 = 0 := by omega
                       obtain ⟨hz, hl, h6, h7, h8⟩ := hz
                       subst hz
                       subst h8
                       rw [cif_t rfl, fr_a (fun z => hl z.1) ⟨h6, rfl, h7⟩]
                       have e := ih (k + 1) (v1 + 0) (0 + 0) 1 (vI (g 21 0 k)) (vI 1) (by omega) (by omega) (by omega) (by omega) (by omega) (by omega) (by omega) (by omega)
                       rw [cif_f (by decide)] at e
                       exact e)
                · refine o_iload_n (n := 146) rfl rfl rfl ?_
                  refine o_if_eq (n := 149) (t := 153) rfl rfl rfl (fun k146 => ?_) (fun k146 => ?_)
                  · refine o_iconst (n := 154) rfl rfl ?_
                    refine o_iadd (n := 155) rfl rfl (by omega) ?_
                    refine o_istore_2 (n := 156) rfl rfl rfl ?_
                    refine o_iinc_4 (n := 159) rfl rfl rfl (by omega) ?_
                    refine o_goto (t := 9) rfl rfl ?_
                    first
                      | (exfalso; omega; done)
                      | (have hz : ld = 0 ∧ (97 ≤ g 21 0 k ∧ g 21 0 k ≤ 96 + g 8 0 5) ∧ v1 < 6 := by omega
                         obtain ⟨hz, hl, h6⟩ := hz
                         subst hz
                         rw [cif_t rfl, fr_l ⟨hl, h6⟩]
                         have e := ih (k + 1) (v1 + 1) (v2 + 0) 0 (vI (g 21 0 k)) (vI 1) (by omega) (by omega) (by omega) (by omega) (by omega) (by omega) (by omega) (by omega)
                         rw [cif_t rfl] at e
                         exact e)
                      | (have hz : ld = 1 ∧ (97 ≤ g 21 0 k ∧ g 21 0 k ≤ 96 + g 8 0 5) ∧ v2 < 6 := by omega
                         obtain ⟨hz, hl, h6⟩ := hz
                         subst hz
                         rw [cif_f (by decide), fr_l ⟨hl, h6⟩]
                         have e := ih (k + 1) (v1 + 0) (v2 + 1) 1 (vI (g 21 0 k)) (vI 1) (by omega) (by omega) (by omega) (by omega) (by omega) (by omega) (by omega) (by omega)
                         rw [cif_f (by decide)] at e
                         exact e)
                      | (have hz : ld = 0 ∧ ¬ (97 ≤ g 21 0 k ∧ g 21 0 k ≤ 96 + g 8 0 5) ∧ (g 21 0 k = 62 ∨ g 21 0 k = 61) ∧ 0 < v1 ∧ v2 = 0 := by omega
                         obtain ⟨hz, hl, h6, h7, h8⟩ := hz
                         subst hz
                         subst h8
                         rw [cif_t rfl, fr_a (fun z => hl z.1) ⟨h6, rfl, h7⟩]
                         have e := ih (k + 1) (v1 + 0) (0 + 0) 1 (vI (g 21 0 k)) (vI 1) (by omega) (by omega) (by omega) (by omega) (by omega) (by omega) (by omega) (by omega)
                         rw [cif_f (by decide)] at e
                         exact e)
                  · refine o_iconst (n := 150) rfl rfl ?_
                    refine o_goto (t := 154) rfl rfl ?_
                    refine o_iadd (n := 155) rfl rfl (by omega) ?_
                    refine o_istore_2 (n := 156) rfl rfl rfl ?_
                    refine o_iinc_4 (n := 159) rfl rfl rfl (by omega) ?_
                    refine o_goto (t := 9) rfl rfl ?_
                    first
                      | (exfalso; omega; done)
                      | (have hz : ld = 0 ∧ (97 ≤ g 21 0 k ∧ g 21 0 k ≤ 96 + g 8 0 5) ∧ v1 < 6 := by omega
                         obtain ⟨hz, hl, h6⟩ := hz
                         subst hz
                         rw [cif_t rfl, fr_l ⟨hl, h6⟩]
                         have e := ih (k + 1) (v1 + 1) (v2 + 0) 0 (vI (g 21 0 k)) (vI 1) (by omega) (by omega) (by omega) (by omega) (by omega) (by omega) (by omega) (by omega)
                         rw [cif_t rfl] at e
                         exact e)
                      | (have hz : ld = 1 ∧ (97 ≤ g 21 0 k ∧ g 21 0 k ≤ 96 + g 8 0 5) ∧ v2 < 6 := by omega
                         obtain ⟨hz, hl, h6⟩ := hz
                         subst hz
                         rw [cif_f (by decide), fr_l ⟨hl, h6⟩]
                         have e := ih (k + 1) (v1 + 0) (v2 + 1) 1 (vI (g 21 0 k)) (vI 1) (by omega) (by omega) (by omega) (by omega) (by omega) (by omega) (by omega) (by omega)
                         rw [cif_f (by decide)] at e
                         exact e)
                      | (have hz : ld = 0 ∧ ¬ (97 ≤ g 21 0 k ∧ g 21 0 k ≤ 96 + g 8 0 5) ∧ (g 21 0 k = 62 ∨ g 21 0 k = 61) ∧ 0 < v1 ∧ v2 = 0 := by omega
                         obtain ⟨hz, hl, h6, h7, h8⟩ := hz
                         subst hz
                         subst h8
                         rw [cif_t rfl, fr_a (fun z => hl z.1) ⟨h6, rfl, h7⟩]
                         have e := ih (k + 1) (v1 + 0) (0 + 0) 1 (vI (g 21 0 k)) (vI 1) (by omega) (by omega) (by omega) (by omega) (by omega) (by omega) (by omega) (by omega)
                         rw [cif_f (by decide)] at e
                         exact e)
              · refine o_iload_n (n := 125) rfl rfl rfl ?_
                refine o_if_ne (n := 128) (t := 132) rfl rfl rfl (fun k125 => ?_) (fun k125 => ?_)
                · refine o_iconst (n := 133) rfl rfl ?_
                  refine o_iadd (n := 134) rfl rfl (by omega) ?_
                  refine o_istore_1 (n := 135) rfl rfl rfl ?_
                  refine o_iload_n (n := 136) rfl rfl rfl ?_
                  refine o_aload_n (n := 137) rfl rfl rfl ?_
                  refine o_iload (n := 139) rfl rfl rfl ?_
                  refine o_invi (n := 142) rfl rfl rfl rfl rfl rfl rfl rfl rfl rfl (c8_isSign _ hs0 hs1) ?_
                  refine o_ifb_eq (n := 145) (t := 153) rfl rfl rfl (fun k142 => ?_) (fun k142 => ?_)
                  · refine o_iconst (n := 154) rfl rfl ?_
                    refine o_iadd (n := 155) rfl rfl (by omega) ?_
                    refine o_istore_2 (n := 156) rfl rfl rfl ?_
                    refine o_iinc_4 (n := 159) rfl rfl rfl (by omega) ?_
                    refine o_goto (t := 9) rfl rfl ?_
                    first
                      | (exfalso; omega; done)
                      | (have hz : ld = 0 ∧ (97 ≤ g 21 0 k ∧ g 21 0 k ≤ 96 + g 8 0 5) ∧ v1 < 6 := by omega
                         obtain ⟨hz, hl, h6⟩ := hz
                         subst hz
                         rw [cif_t rfl, fr_l ⟨hl, h6⟩]
                         have e := ih (k + 1) (v1 + 1) (v2 + 0) 0 (vI (g 21 0 k)) (vI 1) (by omega) (by omega) (by omega) (by omega) (by omega) (by omega) (by omega) (by omega)
                         rw [cif_t rfl] at e
                         exact e)
                      | (have hz : ld = 1 ∧ (97 ≤ g 21 0 k ∧ g 21 0 k ≤ 96 + g 8 0 5) ∧ v2 < 6 := by omega
                         obtain ⟨hz, hl, h6⟩ := hz
                         subst hz
                         rw [cif_f (by decide), fr_l ⟨hl, h6⟩]
                         have e := ih (k + 1) (v1 + 0) (v2 + 1) 1 (vI (g 21 0 k)) (vI 1) (by omega) (by omega) (by omega) (by omega) (by omega) (by omega) (by omega) (by omega)
                         rw [cif_f (by decide)] at e
                         exact e)
                      | (have hz : ld = 0 ∧ ¬ (97 ≤ g 21 0 k ∧ g 21 0 k ≤ 96 + g 8 0 5) ∧ (g 21 0 k = 62 ∨ g 21 0 k = 61) ∧ 0 < v1 ∧ v2 = 0 := by omega
                         obtain ⟨hz, hl, h6, h7, h8⟩ := hz
                         subst hz
                         subst h8
                         rw [cif_t rfl, fr_a (fun z => hl z.1) ⟨h6, rfl, h7⟩]
                         have e := ih (k + 1) (v1 + 0) (0 + 0) 1 (vI (g 21 0 k)) (vI 1) (by omega) (by omega) (by omega) (by omega) (by omega) (by omega) (by omega) (by omega)
                         rw [cif_f (by decide)] at e
                         exact e)
                  · refine o_iload_n (n := 146) rfl rfl rfl ?_
                    refine o_if_eq (n := 149) (t := 153) rfl rfl rfl (fun k146 => ?_) (fun k146 => ?_)
                    · refine o_iconst (n := 154) rfl rfl ?_
                      refine o_iadd (n := 155) rfl rfl (by omega) ?_
                      refine o_istore_2 (n := 156) rfl rfl rfl ?_
                      refine o_iinc_4 (n := 159) rfl rfl rfl (by omega) ?_
                      refine o_goto (t := 9) rfl rfl ?_
                      first
                        | (exfalso; omega; done)
                        | (have hz : ld = 0 ∧ (97 ≤ g 21 0 k ∧ g 21 0 k ≤ 96 + g 8 0 5) ∧ v1 < 6 := by omega
                           obtain ⟨hz, hl, h6⟩ := hz
                           subst hz
                           rw [cif_t rfl, fr_l ⟨hl, h6⟩]
                           have e := ih (k + 1) (v1 + 1) (v2 + 0) 0 (vI (g 21 0 k)) (vI 1) (by omega) (by omega) (by omega) (by omega) (by omega) (by omega) (by omega) (by omega)
                           rw [cif_t rfl] at e
                           exact e)
                        | (have hz : ld = 1 ∧ (97 ≤ g 21 0 k ∧ g 21 0 k ≤ 96 + g 8 0 5) ∧ v2 < 6 := by omega
                           obtain ⟨hz, hl, h6⟩ := hz
                           subst hz
                           rw [cif_f (by decide), fr_l ⟨hl, h6⟩]
                           have e := ih (k + 1) (v1 + 0) (v2 + 1) 1 (vI (g 21 0 k)) (vI 1) (by omega) (by omega) (by omega) (by omega) (by omega) (by omega) (by omega) (by omega)
                           rw [cif_f (by decide)] at e
                           exact e)
                        | (have hz : ld = 0 ∧ ¬ (97 ≤ g 21 0 k ∧ g 21 0 k ≤ 96 + g 8 0 5) ∧ (g 21 0 k = 62 ∨ g 21 0 k = 61) ∧ 0 < v1 ∧ v2 = 0 := by omega
                           obtain ⟨hz, hl, h6, h7, h8⟩ := hz
                           subst hz
                           subst h8
                           rw [cif_t rfl, fr_a (fun z => hl z.1) ⟨h6, rfl, h7⟩]
                           have e := ih (k + 1) (v1 + 0) (0 + 0) 1 (vI (g 21 0 k)) (vI 1) (by omega) (by omega) (by omega) (by omega) (by omega) (by omega) (by omega) (by omega)
                           rw [cif_f (by decide)] at e
                           exact e)
                    · refine o_iconst (n := 150) rfl rfl ?_
                      refine o_goto (t := 154) rfl rfl ?_
                      refine o_iadd (n := 155) rfl rfl (by omega) ?_
                      refine o_istore_2 (n := 156) rfl rfl rfl ?_
                      refine o_iinc_4 (n := 159) rfl rfl rfl (by omega) ?_
                      refine o_goto (t := 9) rfl rfl ?_
                      first
                        | (exfalso; omega; done)
                        | (have hz : ld = 0 ∧ (97 ≤ g 21 0 k ∧ g 21 0 k ≤ 96 + g 8 0 5) ∧ v1 < 6 := by omega
                           obtain ⟨hz, hl, h6⟩ := hz
                           subst hz
                           rw [cif_t rfl, fr_l ⟨hl, h6⟩]
                           have e := ih (k + 1) (v1 + 1) (v2 + 0) 0 (vI (g 21 0 k)) (vI 1) (by omega) (by omega) (by omega) (by omega) (by omega) (by omega) (by omega) (by omega)
                           rw [cif_t rfl] at e
                           exact e)
                        | (have hz : ld = 1 ∧ (97 ≤ g 21 0 k ∧ g 21 0 k ≤ 96 + g 8 0 5) ∧ v2 < 6 := by omega
                           obtain ⟨hz, hl, h6⟩ := hz
                           subst hz
                           rw [cif_f (by decide), fr_l ⟨hl, h6⟩]
                           have e := ih (k + 1) (v1 + 0) (v2 + 1) 1 (vI (g 21 0 k)) (vI 1) (by omega) (by omega) (by omega) (by omega) (by omega) (by omega) (by omega) (by omega)
                           rw [cif_f (by decide)] at e
                           exact e)
                        | (have hz : ld = 0 ∧ ¬ (97 ≤ g 21 0 k ∧ g 21 0 k ≤ 96 + g 8 0 5) ∧ (g 21 0 k = 62 ∨ g 21 0 k = 61) ∧ 0 < v1 ∧ v2 = 0 := by omega
                           obtain ⟨hz, hl, h6, h7, h8⟩ := hz
                           subst hz
                           subst h8
                           rw [cif_t rfl, fr_a (fun z => hl z.1) ⟨h6, rfl, h7⟩]
                           have e := ih (k + 1) (v1 + 0) (0 + 0) 1 (vI (g 21 0 k)) (vI 1) (by omega) (by omega) (by omega) (by omega) (by omega) (by omega) (by omega) (by omega)
                           rw [cif_f (by decide)] at e
                           exact e)
                · refine o_iconst (n := 129) rfl rfl ?_
                  refine o_goto (t := 133) rfl rfl ?_
                  refine o_iadd (n := 134) rfl rfl (by omega) ?_
                  refine o_istore_1 (n := 135) rfl rfl rfl ?_
                  refine o_iload_n (n := 136) rfl rfl rfl ?_
                  refine o_aload_n (n := 137) rfl rfl rfl ?_
                  refine o_iload (n := 139) rfl rfl rfl ?_
                  refine o_invi (n := 142) rfl rfl rfl rfl rfl rfl rfl rfl rfl rfl (c8_isSign _ hs0 hs1) ?_
                  refine o_ifb_eq (n := 145) (t := 153) rfl rfl rfl (fun k142 => ?_) (fun k142 => ?_)
                  · refine o_iconst (n := 154) rfl rfl ?_
                    refine o_iadd (n := 155) rfl rfl (by omega) ?_
                    refine o_istore_2 (n := 156) rfl rfl rfl ?_
                    refine o_iinc_4 (n := 159) rfl rfl rfl (by omega) ?_
                    refine o_goto (t := 9) rfl rfl ?_
                    first
                      | (exfalso; omega; done)
                      | (have hz : ld = 0 ∧ (97 ≤ g 21 0 k ∧ g 21 0 k ≤ 96 + g 8 0 5) ∧ v1 < 6 := by omega
                         obtain ⟨hz, hl, h6⟩ := hz
                         subst hz
                         rw [cif_t rfl, fr_l ⟨hl, h6⟩]
                         have e := ih (k + 1) (v1 + 1) (v2 + 0) 0 (vI (g 21 0 k)) (vI 1) (by omega) (by omega) (by omega) (by omega) (by omega) (by omega) (by omega) (by omega)
                         rw [cif_t rfl] at e
                         exact e)
                      | (have hz : ld = 1 ∧ (97 ≤ g 21 0 k ∧ g 21 0 k ≤ 96 + g 8 0 5) ∧ v2 < 6 := by omega
                         obtain ⟨hz, hl, h6⟩ := hz
                         subst hz
                         rw [cif_f (by decide), fr_l ⟨hl, h6⟩]
                         have e := ih (k + 1) (v1 + 0) (v2 + 1) 1 (vI (g 21 0 k)) (vI 1) (by omega) (by omega) (by omega) (by omega) (by omega) (by omega) (by omega) (by omega)
                         rw [cif_f (by decide)] at e
                         exact e)
                      | (have hz : ld = 0 ∧ ¬ (97 ≤ g 21 0 k ∧ g 21 0 k ≤ 96 + g 8 0 5) ∧ (g 21 0 k = 62 ∨ g 21 0 k = 61) ∧ 0 < v1 ∧ v2 = 0 := by omega
                         obtain ⟨hz, hl, h6, h7, h8⟩ := hz
                         subst hz
                         subst h8
                         rw [cif_t rfl, fr_a (fun z => hl z.1) ⟨h6, rfl, h7⟩]
                         have e := ih (k + 1) (v1 + 0) (0 + 0) 1 (vI (g 21 0 k)) (vI 1) (by omega) (by omega) (by omega) (by omega) (by omega) (by omega) (by omega) (by omega)
                         rw [cif_f (by decide)] at e
                         exact e)
                  · refine o_iload_n (n := 146) rfl rfl rfl ?_
                    refine o_if_eq (n := 149) (t := 153) rfl rfl rfl (fun k146 => ?_) (fun k146 => ?_)
                    · refine o_iconst (n := 154) rfl rfl ?_
                      refine o_iadd (n := 155) rfl rfl (by omega) ?_
                      refine o_istore_2 (n := 156) rfl rfl rfl ?_
                      refine o_iinc_4 (n := 159) rfl rfl rfl (by omega) ?_
                      refine o_goto (t := 9) rfl rfl ?_
                      first
                        | (exfalso; omega; done)
                        | (have hz : ld = 0 ∧ (97 ≤ g 21 0 k ∧ g 21 0 k ≤ 96 + g 8 0 5) ∧ v1 < 6 := by omega
                           obtain ⟨hz, hl, h6⟩ := hz
                           subst hz
                           rw [cif_t rfl, fr_l ⟨hl, h6⟩]
                           have e := ih (k + 1) (v1 + 1) (v2 + 0) 0 (vI (g 21 0 k)) (vI 1) (by omega) (by omega) (by omega) (by omega) (by omega) (by omega) (by omega) (by omega)
                           rw [cif_t rfl] at e
                           exact e)
                        | (have hz : ld = 1 ∧ (97 ≤ g 21 0 k ∧ g 21 0 k ≤ 96 + g 8 0 5) ∧ v2 < 6 := by omega
                           obtain ⟨hz, hl, h6⟩ := hz
                           subst hz
                           rw [cif_f (by decide), fr_l ⟨hl, h6⟩]
                           have e := ih (k + 1) (v1 + 0) (v2 + 1) 1 (vI (g 21 0 k)) (vI 1) (by omega) (by omega) (by omega) (by omega) (by omega) (by omega) (by omega) (by omega)
                           rw [cif_f (by decide)] at e
                           exact e)
                        | (have hz : ld = 0 ∧ ¬ (97 ≤ g 21 0 k ∧ g 21 0 k ≤ 96 + g 8 0 5) ∧ (g 21 0 k = 62 ∨ g 21 0 k = 61) ∧ 0 < v1 ∧ v2 = 0 := by omega
                           obtain ⟨hz, hl, h6, h7, h8⟩ := hz
                           subst hz
                           subst h8
                           rw [cif_t rfl, fr_a (fun z => hl z.1) ⟨h6, rfl, h7⟩]
                           have e := ih (k + 1) (v1 + 0) (0 + 0) 1 (vI (g 21 0 k)) (vI 1) (by omega) (by omega) (by omega) (by omega) (by omega) (by omega) (by omega) (by omega)
                           rw [cif_f (by decide)] at e
                           exact e)
                    · refine o_iconst (n := 150) rfl rfl ?_
                      refine o_goto (t := 154) rfl rfl ?_
                      refine o_iadd (n := 155) rfl rfl (by omega) ?_
                      refine o_istore_2 (n := 156) rfl rfl rfl ?_
                      refine o_iinc_4 (n := 159) rfl rfl rfl (by omega) ?_
                      refine o_goto (t := 9) rfl rfl ?_
                      first
                        | (exfalso; omega; done)
                        | (have hz : ld = 0 ∧ (97 ≤ g 21 0 k ∧ g 21 0 k ≤ 96 + g 8 0 5) ∧ v1 < 6 := by omega
                           obtain ⟨hz, hl, h6⟩ := hz
                           subst hz
                           rw [cif_t rfl, fr_l ⟨hl, h6⟩]
                           have e := ih (k + 1) (v1 + 1) (v2 + 0) 0 (vI (g 21 0 k)) (vI 1) (by omega) (by omega) (by omega) (by omega) (by omega) (by omega) (by omega) (by omega)
                           rw [cif_t rfl] at e
                           exact e)
                        | (have hz : ld = 1 ∧ (97 ≤ g 21 0 k ∧ g 21 0 k ≤ 96 + g 8 0 5) ∧ v2 < 6 := by omega
                           obtain ⟨hz, hl, h6⟩ := hz
                           subst hz
                           rw [cif_f (by decide), fr_l ⟨hl, h6⟩]
                           have e := ih (k + 1) (v1 + 0) (v2 + 1) 1 (vI (g 21 0 k)) (vI 1) (by omega) (by omega) (by omega) (by omega) (by omega) (by omega) (by omega) (by omega)
                           rw [cif_f (by decide)] at e
                           exact e)
                        | (have hz : ld = 0 ∧ ¬ (97 ≤ g 21 0 k ∧ g 21 0 k ≤ 96 + g 8 0 5) ∧ (g 21 0 k = 62 ∨ g 21 0 k = 61) ∧ 0 < v1 ∧ v2 = 0 := by omega
                           obtain ⟨hz, hl, h6, h7, h8⟩ := hz
                           subst hz
                           subst h8
                           rw [cif_t rfl, fr_a (fun z => hl z.1) ⟨h6, rfl, h7⟩]
                           have e := ih (k + 1) (v1 + 0) (0 + 0) 1 (vI (g 21 0 k)) (vI 1) (by omega) (by omega) (by omega) (by omega) (by omega) (by omega) (by omega) (by omega)
                           rw [cif_f (by decide)] at e
                           exact e)
            · refine o_aload_n (n := 100) rfl rfl rfl ?_
              refine o_iload (n := 102) rfl rfl rfl ?_
              refine o_invi (n := 105) rfl rfl rfl rfl rfl rfl rfl rfl rfl rfl (c8_isSign _ hs0 hs1) ?_
              refine o_ifb_ne (n := 108) (t := 112) rfl rfl rfl (fun k105 => ?_) (fun k105 => ?_)
              · refine o_iconst (n := 113) rfl rfl ?_
                refine o_istore_3 (n := 114) rfl rfl rfl ?_
                refine o_iload_n (n := 115) rfl rfl rfl ?_
                refine o_aload_n (n := 116) rfl rfl rfl ?_
                refine o_iload (n := 118) rfl rfl rfl ?_
                refine o_invi (n := 121) rfl rfl rfl rfl rfl rfl rfl rfl rfl rfl (c8_isSign _ hs0 hs1) ?_
                refine o_ifb_eq (n := 124) (t := 132) rfl rfl rfl (fun k121 => ?_) (fun k121 => ?_)
                · refine o_iconst (n := 133) rfl rfl ?_
                  refine o_iadd (n := 134) rfl rfl (by omega) ?_
                  refine o_istore_1 (n := 135) rfl rfl rfl ?_
                  refine o_iload_n (n := 136) rfl rfl rfl ?_
                  refine o_aload_n (n := 137) rfl rfl rfl ?_
                  refine o_iload (n := 139) rfl rfl rfl ?_
                  refine o_invi (n := 142) rfl rfl rfl rfl rfl rfl rfl rfl rfl rfl (c8_isSign _ hs0 hs1) ?_
                  refine o_ifb_eq (n := 145) (t := 153) rfl rfl rfl (fun k142 => ?_) (fun k142 => ?_)
                  · refine o_iconst (n := 154) rfl rfl ?_
                    refine o_iadd (n := 155) rfl rfl (by omega) ?_
                    refine o_istore_2 (n := 156) rfl rfl rfl ?_
                    refine o_iinc_4 (n := 159) rfl rfl rfl (by omega) ?_
                    refine o_goto (t := 9) rfl rfl ?_
                    first
                      | (exfalso; omega; done)
                      | (have hz : ld = 0 ∧ (97 ≤ g 21 0 k ∧ g 21 0 k ≤ 96 + g 8 0 5) ∧ v1 < 6 := by omega
                         obtain ⟨hz, hl, h6⟩ := hz
                         subst hz
                         rw [cif_t rfl, fr_l ⟨hl, h6⟩]
                         have e := ih (k + 1) (v1 + 1) (v2 + 0) 0 (vI (g 21 0 k)) (vI 1) (by omega) (by omega) (by omega) (by omega) (by omega) (by omega) (by omega) (by omega)
                         rw [cif_t rfl] at e
                         exact e)
                      | (have hz : ld = 1 ∧ (97 ≤ g 21 0 k ∧ g 21 0 k ≤ 96 + g 8 0 5) ∧ v2 < 6 := by omega
                         obtain ⟨hz, hl, h6⟩ := hz
                         subst hz
                         rw [cif_f (by decide), fr_l ⟨hl, h6⟩]
                         have e := ih (k + 1) (v1 + 0) (v2 + 1) 1 (vI (g 21 0 k)) (vI 1) (by omega) (by omega) (by omega) (by omega) (by omega) (by omega) (by omega) (by omega)
                         rw [cif_f (by decide)] at e
                         exact e)
                      | (have hz : ld = 0 ∧ ¬ (97 ≤ g 21 0 k ∧ g 21 0 k ≤ 96 + g 8 0 5) ∧ (g 21 0 k = 62 ∨ g 21 0 k = 61) ∧ 0 < v1 ∧ v2 = 0 := by omega
                         obtain ⟨hz, hl, h6, h7, h8⟩ := hz
                         subst hz
                         subst h8
                         rw [cif_t rfl, fr_a (fun z => hl z.1) ⟨h6, rfl, h7⟩]
                         have e := ih (k + 1) (v1 + 0) (0 + 0) 1 (vI (g 21 0 k)) (vI 1) (by omega) (by omega) (by omega) (by omega) (by omega) (by omega) (by omega) (by omega)
                         rw [cif_f (by decide)] at e
                         exact e)
                  · refine o_iload_n (n := 146) rfl rfl rfl ?_
                    refine o_if_eq (n := 149) (t := 153) rfl rfl rfl (fun k146 => ?_) (fun k146 => ?_)
                    · refine o_iconst (n := 154) rfl rfl ?_
                      refine o_iadd (n := 155) rfl rfl (by omega) ?_
                      refine o_istore_2 (n := 156) rfl rfl rfl ?_
                      refine o_iinc_4 (n := 159) rfl rfl rfl (by omega) ?_
                      refine o_goto (t := 9) rfl rfl ?_
                      first
                        | (exfalso; omega; done)
                        | (have hz : ld = 0 ∧ (97 ≤ g 21 0 k ∧ g 21 0 k ≤ 96 + g 8 0 5) ∧ v1 < 6 := by omega
                           obtain ⟨hz, hl, h6⟩ := hz
                           subst hz
                           rw [cif_t rfl, fr_l ⟨hl, h6⟩]
                           have e := ih (k + 1) (v1 + 1) (v2 + 0) 0 (vI (g 21 0 k)) (vI 1) (by omega) (by omega) (by omega) (by omega) (by omega) (by omega) (by omega) (by omega)
                           rw [cif_t rfl] at e
                           exact e)
                        | (have hz : ld = 1 ∧ (97 ≤ g 21 0 k ∧ g 21 0 k ≤ 96 + g 8 0 5) ∧ v2 < 6 := by omega
                           obtain ⟨hz, hl, h6⟩ := hz
                           subst hz
                           rw [cif_f (by decide), fr_l ⟨hl, h6⟩]
                           have e := ih (k + 1) (v1 + 0) (v2 + 1) 1 (vI (g 21 0 k)) (vI 1) (by omega) (by omega) (by omega) (by omega) (by omega) (by omega) (by omega) (by omega)
                           rw [cif_f (by decide)] at e
                           exact e)
                        | (have hz : ld = 0 ∧ ¬ (97 ≤ g 21 0 k ∧ g 21 0 k ≤ 96 + g 8 0 5) ∧ (g 21 0 k = 62 ∨ g 21 0 k = 61) ∧ 0 < v1 ∧ v2 = 0 := by omega
                           obtain ⟨hz, hl, h6, h7, h8⟩ := hz
                           subst hz
                           subst h8
                           rw [cif_t rfl, fr_a (fun z => hl z.1) ⟨h6, rfl, h7⟩]
                           have e := ih (k + 1) (v1 + 0) (0 + 0) 1 (vI (g 21 0 k)) (vI 1) (by omega) (by omega) (by omega) (by omega) (by omega) (by omega) (by omega) (by omega)
                           rw [cif_f (by decide)] at e
                           exact e)
                    · refine o_iconst (n := 150) rfl rfl ?_
                      refine o_goto (t := 154) rfl rfl ?_
                      refine o_iadd (n := 155) rfl rfl (by omega) ?_
                      refine o_istore_2 (n := 156) rfl rfl rfl ?_
                      refine o_iinc_4 (n := 159) rfl rfl rfl (by omega) ?_
                      refine o_goto (t := 9) rfl rfl ?_
                      first
                        | (exfalso; omega; done)
                        | (have hz : ld = 0 ∧ (97 ≤ g 21 0 k ∧ g 21 0 k ≤ 96 + g 8 0 5) ∧ v1 < 6 := by omega
                           obtain ⟨hz, hl, h6⟩ := hz
                           subst hz
                           rw [cif_t rfl, fr_l ⟨hl, h6⟩]
                           have e := ih (k + 1) (v1 + 1) (v2 + 0) 0 (vI (g 21 0 k)) (vI 1) (by omega) (by omega) (by omega) (by omega) (by omega) (by omega) (by omega) (by omega)
                           rw [cif_t rfl] at e
                           exact e)
                        | (have hz : ld = 1 ∧ (97 ≤ g 21 0 k ∧ g 21 0 k ≤ 96 + g 8 0 5) ∧ v2 < 6 := by omega
                           obtain ⟨hz, hl, h6⟩ := hz
                           subst hz
                           rw [cif_f (by decide), fr_l ⟨hl, h6⟩]
                           have e := ih (k + 1) (v1 + 0) (v2 + 1) 1 (vI (g 21 0 k)) (vI 1) (by omega) (by omega) (by omega) (by omega) (by omega) (by omega) (by omega) (by omega)
                           rw [cif_f (by decide)] at e
                           exact e)
                        | (have hz : ld = 0 ∧ ¬ (97 ≤ g 21 0 k ∧ g 21 0 k ≤ 96 + g 8 0 5) ∧ (g 21 0 k = 62 ∨ g 21 0 k = 61) ∧ 0 < v1 ∧ v2 = 0 := by omega
                           obtain ⟨hz, hl, h6, h7, h8⟩ := hz
                           subst hz
                           subst h8
                           rw [cif_t rfl, fr_a (fun z => hl z.1) ⟨h6, rfl, h7⟩]
                           have e := ih (k + 1) (v1 + 0) (0 + 0) 1 (vI (g 21 0 k)) (vI 1) (by omega) (by omega) (by omega) (by omega) (by omega) (by omega) (by omega) (by omega)
                           rw [cif_f (by decide)] at e
                           exact e)
                · refine o_iload_n (n := 125) rfl rfl rfl ?_
                  refine o_if_ne (n := 128) (t := 132) rfl rfl rfl (fun k125 => ?_) (fun k125 => ?_)
                  · refine o_iconst (n := 133) rfl rfl ?_
                    refine o_iadd (n := 134) rfl rfl (by omega) ?_
                    refine o_istore_1 (n := 135) rfl rfl rfl ?_
                    refine o_iload_n (n := 136) rfl rfl rfl ?_
                    refine o_aload_n (n := 137) rfl rfl rfl ?_
                    refine o_iload (n := 139) rfl rfl rfl ?_
                    refine o_invi (n := 142) rfl rfl rfl rfl rfl rfl rfl rfl rfl rfl (c8_isSign _ hs0 hs1) ?_
                    refine o_ifb_eq (n := 145) (t := 153) rfl rfl rfl (fun k142 => ?_) (fun k142 => ?_)
                    · refine o_iconst (n := 154) rfl rfl ?_
                      refine o_iadd (n := 155) rfl rfl (by omega) ?_
                      refine o_istore_2 (n := 156) rfl rfl rfl ?_
                      refine o_iinc_4 (n := 159) rfl rfl rfl (by omega) ?_
                      refine o_goto (t := 9) rfl rfl ?_
                      first
                        | (exfalso; omega; done)
                        | (have hz : ld = 0 ∧ (97 ≤ g 21 0 k ∧ g 21 0 k ≤ 96 + g 8 0 5) ∧ v1 < 6 := by omega
                           obtain ⟨hz, hl, h6⟩ := hz
                           subst hz
                           rw [cif_t rfl, fr_l ⟨hl, h6⟩]
                           have e := ih (k + 1) (v1 + 1) (v2 + 0) 0 (vI (g 21 0 k)) (vI 1) (by omega) (by omega) (by omega) (by omega) (by omega) (by omega) (by omega) (by omega)
                           rw [cif_t rfl] at e
                           exact e)
                        | (have hz : ld = 1 ∧ (97 ≤ g 21 0 k ∧ g 21 0 k ≤ 96 + g 8 0 5) ∧ v2 < 6 := by omega
                           obtain ⟨hz, hl, h6⟩ := hz
                           subst hz
                           rw [cif_f (by decide), fr_l ⟨hl, h6⟩]
                           have e := ih (k + 1) (v1 + 0) (v2 + 1) 1 (vI (g 21 0 k)) (vI 1) (by omega) (by omega) (by omega) (by omega) (by omega) (by omega) (by omega) (by omega)
                           rw [cif_f (by decide)] at e
                           exact e)
                        | (have hz : ld = 0 ∧ ¬ (97 ≤ g 21 0 k ∧ g 21 0 k ≤ 96 + g 8 0 5) ∧ (g 21 0 k = 62 ∨ g 21 0 k = 61) ∧ 0 < v1 ∧ v2 = 0 := by omega
                           obtain ⟨hz, hl, h6, h7, h8⟩ := hz
                           subst hz
                           subst h8
                           rw [cif_t rfl, fr_a (fun z => hl z.1) ⟨h6, rfl, h7⟩]
                           have e := ih (k + 1) (v1 + 0) (0 + 0) 1 (vI (g 21 0 k)) (vI 1) (by omega) (by omega) (by omega) (by omega) (by omega) (by omega) (by omega) (by omega)
                           rw [cif_f (by decide)] at e
                           exact e)
                    · refine o_iload_n (n := 146) rfl rfl rfl ?_
                      refine o_if_eq (n := 149) (t := 153) rfl rfl rfl (fun k146 => ?_) (fun k146 => ?_)
                      · refine o_iconst (n := 154) rfl rfl ?_
                        refine o_iadd (n := 155) rfl rfl (by omega) ?_
                        refine o_istore_2 (n := 156) rfl rfl rfl ?_
                        refine o_iinc_4 (n := 159) rfl rfl rfl (by omega) ?_
                        refine o_goto (t := 9) rfl rfl ?_
                        first
                          | (exfalso; omega; done)
                          | (have hz : ld = 0 ∧ (97 ≤ g 21 0 k ∧ g 21 0 k ≤ 96 + g 8 0 5) ∧ v1 < 6 := by omega
                             obtain ⟨hz, hl, h6⟩ := hz
                             subst hz
                             rw [cif_t rfl, fr_l ⟨hl, h6⟩]
                             have e := ih (k + 1) (v1 + 1) (v2 + 0) 0 (vI (g 21 0 k)) (vI 1) (by omega) (by omega) (by omega) (by omega) (by omega) (by omega) (by omega) (by omega)
                             rw [cif_t rfl] at e
                             exact e)
                          | (have hz : ld = 1 ∧ (97 ≤ g 21 0 k ∧ g 21 0 k ≤ 96 + g 8 0 5) ∧ v2 < 6 := by omega
                             obtain ⟨hz, hl, h6⟩ := hz
                             subst hz
                             rw [cif_f (by decide), fr_l ⟨hl, h6⟩]
                             have e := ih (k + 1) (v1 + 0) (v2 + 1) 1 (vI (g 21 0 k)) (vI 1) (by omega) (by omega) (by omega) (by omega) (by omega) (by omega) (by omega) (by omega)
                             rw [cif_f (by decide)] at e
                             exact e)
                          | (have hz : ld = 0 ∧ ¬ (97 ≤ g 21 0 k ∧ g 21 0 k ≤ 96 + g 8 0 5) ∧ (g 21 0 k = 62 ∨ g 21 0 k = 61) ∧ 0 < v1 ∧ v2 = 0 := by omega
                             obtain ⟨hz, hl, h6, h7, h8⟩ := hz
                             subst hz
                             subst h8
                             rw [cif_t rfl, fr_a (fun z => hl z.1) ⟨h6, rfl, h7⟩]
                             have e := ih (k + 1) (v1 + 0) (0 + 0) 1 (vI (g 21 0 k)) (vI 1) (by omega) (by omega) (by omega) (by omega) (by omega) (by omega) (by omega) (by omega)
                             rw [cif_f (by decide)] at e
                             exact e)
                      · refine o_iconst (n := 150) rfl rfl ?_
                        refine o_goto (t := 154) rfl rfl ?_
                        refine o_iadd (n := 155) rfl rfl (by omega) ?_
                        refine o_istore_2 (n := 156) rfl rfl rfl ?_
                        refine o_iinc_4 (n := 159) rfl rfl rfl (by omega) ?_
                        refine o_goto (t := 9) rfl rfl ?_
                        first
                          | (exfalso; omega; done)
                          | (have hz : ld = 0 ∧ (97 ≤ g 21 0 k ∧ g 21 0 k ≤ 96 + g 8 0 5) ∧ v1 < 6 := by omega
                             obtain ⟨hz, hl, h6⟩ := hz
                             subst hz
                             rw [cif_t rfl, fr_l ⟨hl, h6⟩]
                             have e := ih (k + 1) (v1 + 1) (v2 + 0) 0 (vI (g 21 0 k)) (vI 1) (by omega) (by omega) (by omega) (by omega) (by omega) (by omega) (by omega) (by omega)
                             rw [cif_t rfl] at e
                             exact e)
                          | (have hz : ld = 1 ∧ (97 ≤ g 21 0 k ∧ g 21 0 k ≤ 96 + g 8 0 5) ∧ v2 < 6 := by omega
                             obtain ⟨hz, hl, h6⟩ := hz
                             subst hz
                             rw [cif_f (by decide), fr_l ⟨hl, h6⟩]
                             have e := ih (k + 1) (v1 + 0) (v2 + 1) 1 (vI (g 21 0 k)) (vI 1) (by omega) (by omega) (by omega) (by omega) (by omega) (by omega) (by omega) (by omega)
                             rw [cif_f (by decide)] at e
                             exact e)
                          | (have hz : ld = 0 ∧ ¬ (97 ≤ g 21 0 k ∧ g 21 0 k ≤ 96 + g 8 0 5) ∧ (g 21 0 k = 62 ∨ g 21 0 k = 61) ∧ 0 < v1 ∧ v2 = 0 := by omega
                             obtain ⟨hz, hl, h6, h7, h8⟩ := hz
                             subst hz
                             subst h8
                             rw [cif_t rfl, fr_a (fun z => hl z.1) ⟨h6, rfl, h7⟩]
                             have e := ih (k + 1) (v1 + 0) (0 + 0) 1 (vI (g 21 0 k)) (vI 1) (by omega) (by omega) (by omega) (by omega) (by omega) (by omega) (by omega) (by omega)
                             rw [cif_f (by decide)] at e
                             exact e)
                  · refine o_iconst (n := 129) rfl rfl ?_
                    refine o_goto (t := 133) rfl rfl ?_
                    refine o_iadd (n := 134) rfl rfl (by omega) ?_
                    refine o_istore_1 (n := 135) rfl rfl rfl ?_
                    refine o_iload_n (n := 136) rfl rfl rfl ?_
                    refine o_aload_n (n := 137) rfl rfl rfl ?_
                    refine o_iload (n := 139) rfl rfl rfl ?_
                    refine o_invi (n := 142) rfl rfl rfl rfl rfl rfl rfl rfl rfl rfl (c8_isSign _ hs0 hs1) ?_
                    refine o_ifb_eq (n := 145) (t := 153) rfl rfl rfl (fun k142 => ?_) (fun k142 => ?_)
                    · refine o_iconst (n := 154) rfl rfl ?_
                      refine o_iadd (n := 155) rfl rfl (by omega) ?_
                      refine o_istore_2 (n := 156) rfl rfl rfl ?_
                      refine o_iinc_4 (n := 159) rfl rfl rfl (by omega) ?_
                      refine o_goto (t := 9) rfl rfl ?_
                      first
                        | (exfalso; omega; done)
                        | (have hz : ld = 0 ∧ (97 ≤ g 21 0 k ∧ g 21 0 k ≤ 96 + g 8 0 5) ∧ v1 < 6 := by omega
                           obtain ⟨hz, hl, h6⟩ := hz
                           subst hz
                           rw [cif_t rfl, fr_l ⟨hl, h6⟩]
                           have e := ih (k + 1) (v1 + 1) (v2 + 0) 0 (vI (g 21 0 k)) (vI 1) (by omega) (by omega) (by omega) (by omega) (by omega) (by omega) (by omega) (by omega)
                           rw [cif_t rfl] at e
                           exact e)
                        | (have hz : ld = 1 ∧ (97 ≤ g 21 0 k ∧ g 21 0 k ≤ 96 + g 8 0 5) ∧ v2 < 6 := by omega
                           obtain ⟨hz, hl, h6⟩ := hz
                           subst hz
                           rw [cif_f (by decide), fr_l ⟨hl, h6⟩]
                           have e := ih (k + 1) (v1 + 0) (v2 + 1) 1 (vI (g 21 0 k)) (vI 1) (by omega) (by omega) (by omega) (by omega) (by omega) (by omega) (by omega) (by omega)
                           rw [cif_f (by decide)] at e
                           exact e)
                        | (have hz : ld = 0 ∧ ¬ (97 ≤ g 21 0 k ∧ g 21 0 k ≤ 96 + g 8 0 5) ∧ (g 21 0 k = 62 ∨ g 21 0 k = 61) ∧ 0 < v1 ∧ v2 = 0 := by omega
                           obtain ⟨hz, hl, h6, h7, h8⟩ := hz
                           subst hz
                           subst h8
                           rw [cif_t rfl, fr_a (fun z => hl z.1) ⟨h6, rfl, h7⟩]
                           have e := ih (k + 1) (v1 + 0) (0 + 0) 1 (vI (g 21 0 k)) (vI 1) (by omega) (by omega) (by omega) (by omega) (by omega) (by omega) (by omega) (by omega)
                           rw [cif_f (by decide)] at e
                           exact e)
                    · refine o_iload_n (n := 146) rfl rfl rfl ?_
                      refine o_if_eq (n := 149) (t := 153) rfl rfl rfl (fun k146 => ?_) (fun k146 => ?_)
                      · refine o_iconst (n := 154) rfl rfl ?_
                        refine o_iadd (n := 155) rfl rfl (by omega) ?_
                        refine o_istore_2 (n := 156) rfl rfl rfl ?_
                        refine o_iinc_4 (n := 159) rfl rfl rfl (by omega) ?_
                        refine o_goto (t := 9) rfl rfl ?_
                        first
                          | (exfalso; omega; done)
                          | (have hz : ld = 0 ∧ (97 ≤ g 21 0 k ∧ g 21 0 k ≤ 96 + g 8 0 5) ∧ v1 < 6 := by omega
                             obtain ⟨hz, hl, h6⟩ := hz
                             subst hz
                             rw [cif_t rfl, fr_l ⟨hl, h6⟩]
                             have e := ih (k + 1) (v1 + 1) (v2 + 0) 0 (vI (g 21 0 k)) (vI 1) (by omega) (by omega) (by omega) (by omega) (by omega) (by omega) (by omega) (by omega)
                             rw [cif_t rfl] at e
                             exact e)
                          | (have hz : ld = 1 ∧ (97 ≤ g 21 0 k ∧ g 21 0 k ≤ 96 + g 8 0 5) ∧ v2 < 6 := by omega
                             obtain ⟨hz, hl, h6⟩ := hz
                             subst hz
                             rw [cif_f (by decide), fr_l ⟨hl, h6⟩]
                             have e := ih (k + 1) (v1 + 0) (v2 + 1) 1 (vI (g 21 0 k)) (vI 1) (by omega) (by omega) (by omega) (by omega) (by omega) (by omega) (by omega) (by omega)
                             rw [cif_f (by decide)] at e
                             exact e)
                          | (have hz : ld = 0 ∧ ¬ (97 ≤ g 21 0 k ∧ g 21 0 k ≤ 96 + g 8 0 5) ∧ (g 21 0 k = 62 ∨ g 21 0 k = 61) ∧ 0 < v1 ∧ v2 = 0 := by omega
                             obtain ⟨hz, hl, h6, h7, h8⟩ := hz
                             subst hz
                             subst h8
                             rw [cif_t rfl, fr_a (fun z => hl z.1) ⟨h6, rfl, h7⟩]
                             have e := ih (k + 1) (v1 + 0) (0 + 0) 1 (vI (g 21 0 k)) (vI 1) (by omega) (by omega) (by omega) (by omega) (by omega) (by omega) (by omega) (by omega)
                             rw [cif_f (by decide)] at e
                             exact e)
                      · refine o_iconst (n := 150) rfl rfl ?_
                        refine o_goto (t := 154) rfl rfl ?_
                        refine o_iadd (n := 155) rfl rfl (by omega) ?_
                        refine o_istore_2 (n := 156) rfl rfl rfl ?_
                        refine o_iinc_4 (n := 159) rfl rfl rfl (by omega) ?_
                        refine o_goto (t := 9) rfl rfl ?_
                        first
                          | (exfalso; omega; done)
                          | (have hz : ld = 0 ∧ (97 ≤ g 21 0 k ∧ g 21 0 k ≤ 96 + g 8 0 5) ∧ v1 < 6 := by omega
                             obtain ⟨hz, hl, h6⟩ := hz
                             subst hz
                             rw [cif_t rfl, fr_l ⟨hl, h6⟩]
                             have e := ih (k + 1) (v1 + 1) (v2 + 0) 0 (vI (g 21 0 k)) (vI 1) (by omega) (by omega) (by omega) (by omega) (by omega) (by omega) (by omega) (by omega)
                             rw [cif_t rfl] at e
                             exact e)
                          | (have hz : ld = 1 ∧ (97 ≤ g 21 0 k ∧ g 21 0 k ≤ 96 + g 8 0 5) ∧ v2 < 6 := by omega
                             obtain ⟨hz, hl, h6⟩ := hz
                             subst hz
                             rw [cif_f (by decide), fr_l ⟨hl, h6⟩]
                             have e := ih (k + 1) (v1 + 0) (v2 + 1) 1 (vI (g 21 0 k)) (vI 1) (by omega) (by omega) (by omega) (by omega) (by omega) (by omega) (by omega) (by omega)
                             rw [cif_f (by decide)] at e
                             exact e)
                          | (have hz : ld = 0 ∧ ¬ (97 ≤ g 21 0 k ∧ g 21 0 k ≤ 96 + g 8 0 5) ∧ (g 21 0 k = 62 ∨ g 21 0 k = 61) ∧ 0 < v1 ∧ v2 = 0 := by omega
                             obtain ⟨hz, hl, h6, h7, h8⟩ := hz
                             subst hz
                             subst h8
                             rw [cif_t rfl, fr_a (fun z => hl z.1) ⟨h6, rfl, h7⟩]
                             have e := ih (k + 1) (v1 + 0) (0 + 0) 1 (vI (g 21 0 k)) (vI 1) (by omega) (by omega) (by omega) (by omega) (by omega) (by omega) (by omega) (by omega)
                             rw [cif_f (by decide)] at e
                             exact e)
              · refine o_iconst (n := 109) rfl rfl ?_
                refine o_goto (t := 113) rfl rfl ?_
                refine o_istore_3 (n := 114) rfl rfl rfl ?_
                refine o_iload_n (n := 115) rfl rfl rfl ?_
                refine o_aload_n (n := 116) rfl rfl rfl ?_
                refine o_iload (n := 118) rfl rfl rfl ?_
                refine o_invi (n := 121) rfl rfl rfl rfl rfl rfl rfl rfl rfl rfl (c8_isSign _ hs0 hs1) ?_
                refine o_ifb_eq (n := 124) (t := 132) rfl rfl rfl (fun k121 => ?_) (fun k121 => ?_)
                · refine o_iconst (n := 133) rfl rfl ?_
                  refine o_iadd (n := 134) rfl rfl (by omega) ?_
                  refine o_istore_1 (n := 135) rfl rfl rfl ?_
                  refine o_iload_n (n := 136) rfl rfl rfl ?_
                  refine o_aload_n (n := 137) rfl rfl rfl ?_
                  refine o_iload (n := 139) rfl rfl rfl ?_
                  refine o_invi (n := 142) rfl rfl rfl rfl rfl rfl rfl rfl rfl rfl (c8_isSign _ hs0 hs1) ?_
                  refine o_ifb_eq (n := 145) (t := 153) rfl rfl rfl (fun k142 => ?_) (fun k142 => ?_)
                  · refine o_iconst (n := 154) rfl rfl ?_
                    refine o_iadd (n := 155) rfl rfl (by omega) ?_
                    refine o_istore_2 (n := 156) rfl rfl rfl ?_
                    refine o_iinc_4 (n := 159) rfl rfl rfl (by omega) ?_
                    refine o_goto (t := 9) rfl rfl ?_
                    first
                      | (exfalso; omega; done)
                      | (have hz : ld = 0 ∧ (97 ≤ g 21 0 k ∧ g 21 0 k ≤ 96 + g 8 0 5) ∧ v1 < 6 := by omega
                         obtain ⟨hz, hl, h6⟩ := hz
                         subst hz
                         rw [cif_t rfl, fr_l ⟨hl, h6⟩]
                         have e := ih (k + 1) (v1 + 1) (v2 + 0) 0 (vI (g 21 0 k)) (vI 1) (by omega) (by omega) (by omega) (by omega) (by omega) (by omega) (by omega) (by omega)
                         rw [cif_t rfl] at e
                         exact e)
                      | (have hz : ld = 1 ∧ (97 ≤ g 21 0 k ∧ g 21 0 k ≤ 96 + g 8 0 5) ∧ v2 < 6 := by omega
                         obtain ⟨hz, hl, h6⟩ := hz
                         subst hz
                         rw [cif_f (by decide), fr_l ⟨hl, h6⟩]
                         have e := ih (k + 1) (v1 + 0) (v2 + 1) 1 (vI (g 21 0 k)) (vI 1) (by omega) (by omega) (by omega) (by omega) (by omega) (by omega) (by omega) (by omega)
                         rw [cif_f (by decide)] at e
                         exact e)
                      | (have hz : ld = 0 ∧ ¬ (97 ≤ g 21 0 k ∧ g 21 0 k ≤ 96 + g 8 0 5) ∧ (g 21 0 k = 62 ∨ g 21 0 k = 61) ∧ 0 < v1 ∧ v2 = 0 := by omega
                         obtain ⟨hz, hl, h6, h7, h8⟩ := hz
                         subst hz
                         subst h8
                         rw [cif_t rfl, fr_a (fun z => hl z.1) ⟨h6, rfl, h7⟩]
                         have e := ih (k + 1) (v1 + 0) (0 + 0) 1 (vI (g 21 0 k)) (vI 1) (by omega) (by omega) (by omega) (by omega) (by omega) (by omega) (by omega) (by omega)
                         rw [cif_f (by decide)] at e
                         exact e)
                  · refine o_iload_n (n := 146) rfl rfl rfl ?_
                    refine o_if_eq (n := 149) (t := 153) rfl rfl rfl (fun k146 => ?_) (fun k146 => ?_)
                    · refine o_iconst (n := 154) rfl rfl ?_
                      refine o_iadd (n := 155) rfl rfl (by omega) ?_
                      refine o_istore_2 (n := 156) rfl rfl rfl ?_
                      refine o_iinc_4 (n := 159) rfl rfl rfl (by omega) ?_
                      refine o_goto (t := 9) rfl rfl ?_
                      first
                        | (exfalso; omega; done)
                        | (have hz : ld = 0 ∧ (97 ≤ g 21 0 k ∧ g 21 0 k ≤ 96 + g 8 0 5) ∧ v1 < 6 := by omega
                           obtain ⟨hz, hl, h6⟩ := hz
                           subst hz
                           rw [cif_t rfl, fr_l ⟨hl, h6⟩]
                           have e := ih (k + 1) (v1 + 1) (v2 + 0) 0 (vI (g 21 0 k)) (vI 1) (by omega) (by omega) (by omega) (by omega) (by omega) (by omega) (by omega) (by omega)
                           rw [cif_t rfl] at e
                           exact e)
                        | (have hz : ld = 1 ∧ (97 ≤ g 21 0 k ∧ g 21 0 k ≤ 96 + g 8 0 5) ∧ v2 < 6 := by omega
                           obtain ⟨hz, hl, h6⟩ := hz
                           subst hz
                           rw [cif_f (by decide), fr_l ⟨hl, h6⟩]
                           have e := ih (k + 1) (v1 + 0) (v2 + 1) 1 (vI (g 21 0 k)) (vI 1) (by omega) (by omega) (by omega) (by omega) (by omega) (by omega) (by omega) (by omega)
                           rw [cif_f (by decide)] at e
                           exact e)
                        | (have hz : ld = 0 ∧ ¬ (97 ≤ g 21 0 k ∧ g 21 0 k ≤ 96 + g 8 0 5) ∧ (g 21 0 k = 62 ∨ g 21 0 k = 61) ∧ 0 < v1 ∧ v2 = 0 := by omega
                           obtain ⟨hz, hl, h6, h7, h8⟩ := hz
                           subst hz
                           subst h8
                           rw [cif_t rfl, fr_a (fun z => hl z.1) ⟨h6, rfl, h7⟩]
                           have e := ih (k + 1) (v1 + 0) (0 + 0) 1 (vI (g 21 0 k)) (vI 1) (by omega) (by omega) (by omega) (by omega) (by omega) (by omega) (by omega) (by omega)
                           rw [cif_f (by decide)] at e
                           exact e)
                    · refine o_iconst (n := 150) rfl rfl ?_
                      refine o_goto (t := 154) rfl rfl ?_
                      refine o_iadd (n := 155) rfl rfl (by omega) ?_
                      refine o_istore_2 (n := 156) rfl rfl rfl ?_
                      refine o_iinc_4 (n := 159) rfl rfl rfl (by omega) ?_
                      refine o_goto (t := 9) rfl rfl ?_
                      first
                        | (exfalso; omega; done)
                        | (have hz : ld = 0 ∧ (97 ≤ g 21 0 k ∧ g 21 0 k ≤ 96 + g 8 0 5) ∧ v1 < 6 := by omega
                           obtain ⟨hz, hl, h6⟩ := hz
                           subst hz
                           rw [cif_t rfl, fr_l ⟨hl, h6⟩]
                           have e := ih (k + 1) (v1 + 1) (v2 + 0) 0 (vI (g 21 0 k)) (vI 1) (by omega) (by omega) (by omega) (by omega) (by omega) (by omega) (by omega) (by omega)
                           rw [cif_t rfl] at e
                           exact e)
                        | (have hz : ld = 1 ∧ (97 ≤ g 21 0 k ∧ g 21 0 k ≤ 96 + g 8 0 5) ∧ v2 < 6 := by omega
                           obtain ⟨hz, hl, h6⟩ := hz
                           subst hz
                           rw [cif_f (by decide), fr_l ⟨hl, h6⟩]
                           have e := ih (k + 1) (v1 + 0) (v2 + 1) 1 (vI (g 21 0 k)) (vI 1) (by omega) (by omega) (by omega) (by omega) (by omega) (by omega) (by omega) (by omega)
                           rw [cif_f (by decide)] at e
                           exact e)
                        | (have hz : ld = 0 ∧ ¬ (97 ≤ g 21 0 k ∧ g 21 0 k ≤ 96 + g 8 0 5) ∧ (g 21 0 k = 62 ∨ g 21 0 k = 61) ∧ 0 < v1 ∧ v2 = 0 := by omega
                           obtain ⟨hz, hl, h6, h7, h8⟩ := hz
                           subst hz
                           subst h8
                           rw [cif_t rfl, fr_a (fun z => hl z.1) ⟨h6, rfl, h7⟩]
                           have e := ih (k + 1) (v1 + 0) (0 + 0) 1 (vI (g 21 0 k)) (vI 1) (by omega) (by omega) (by omega) (by omega) (by omega) (by omega) (by omega) (by omega)
                           rw [cif_f (by decide)] at e
                           exact e)
                · refine o_iload_n (n := 125) rfl rfl rfl ?_
                  refine o_if_ne (n := 128) (t := 132) rfl rfl rfl (fun k125 => ?_) (fun k125 => ?_)
                  · refine o_iconst (n := 133) rfl rfl ?_
                    refine o_iadd (n := 134) rfl rfl (by omega) ?_
                    refine o_istore_1 (n := 135) rfl rfl rfl ?_
                    refine o_iload_n (n := 136) rfl rfl rfl ?_
                    refine o_aload_n (n := 137) rfl rfl rfl ?_
                    refine o_iload (n := 139) rfl rfl rfl ?_
                    refine o_invi (n := 142) rfl rfl rfl rfl rfl rfl rfl rfl rfl rfl (c8_isSign _ hs0 hs1) ?_
                    refine o_ifb_eq (n := 145) (t := 153) rfl rfl rfl (fun k142 => ?_) (fun k142 => ?_)
                    · refine o_iconst (n := 154) rfl rfl ?_
                      refine o_iadd (n := 155) rfl rfl (by omega) ?_
                      refine o_istore_2 (n := 156) rfl rfl rfl ?_
                      refine o_iinc_4 (n := 159) rfl rfl rfl (by omega) ?_
                      refine o_goto (t := 9) rfl rfl ?_
                      first
                        | (exfalso; omega; done)
                        | (have hz : ld = 0 ∧ (97 ≤ g 21 0 k ∧ g 21 0 k ≤ 96 + g 8 0 5) ∧ v1 < 6 := by omega
                           obtain ⟨hz, hl, h6⟩ := hz
                           subst hz
                           rw [cif_t rfl, fr_l ⟨hl, h6⟩]
                           have e := ih (k + 1) (v1 + 1) (v2 + 0) 0 (vI (g 21 0 k)) (vI 1) (by omega) (by omega) (by omega) (by omega) (by omega) (by omega) (by omega) (by omega)
                           rw [cif_t rfl] at e
                           exact e)
                        | (have hz : ld = 1 ∧ (97 ≤ g 21 0 k ∧ g 21 0 k ≤ 96 + g 8 0 5) ∧ v2 < 6 := by omega
                           obtain ⟨hz, hl, h6⟩ := hz
                           subst hz
                           rw [cif_f (by decide), fr_l ⟨hl, h6⟩]
                           have e := ih (k + 1) (v1 + 0) (v2 + 1) 1 (vI (g 21 0 k)) (vI 1) (by omega) (by omega) (by omega) (by omega) (by omega) (by omega) (by omega) (by omega)
                           rw [cif_f (by decide)] at e
                           exact e)
                        | (have hz : ld = 0 ∧ ¬ (97 ≤ g 21 0 k ∧ g 21 0 k ≤ 96 + g 8 0 5) ∧ (g 21 0 k = 62 ∨ g 21 0 k = 61) ∧ 0 < v1 ∧ v2 = 0 := by omega
                           obtain ⟨hz, hl, h6, h7, h8⟩ := hz
                           subst hz
                           subst h8
                           rw [cif_t rfl, fr_a (fun z => hl z.1) ⟨h6, rfl, h7⟩]
                           have e := ih (k + 1) (v1 + 0) (0 + 0) 1 (vI (g 21 0 k)) (vI 1) (by omega) (by omega) (by omega) (by omega) (by omega) (by omega) (by omega) (by omega)
                           rw [cif_f (by decide)] at e
                           exact e)
                    · refine o_iload_n (n := 146) rfl rfl rfl ?_
                      refine o_if_eq (n := 149) (t := 153) rfl rfl rfl (fun k146 => ?_) (fun k146 => ?_)
                      · refine o_iconst (n := 154) rfl rfl ?_
                        refine o_iadd (n := 155) rfl rfl (by omega) ?_
                        refine o_istore_2 (n := 156) rfl rfl rfl ?_
                        refine o_iinc_4 (n := 159) rfl rfl rfl (by omega) ?_
                        refine o_goto (t := 9) rfl rfl ?_
                        first
                          | (exfalso; omega; done)
                          | (have hz : ld = 0 ∧ (97 ≤ g 21 0 k ∧ g 21 0 k ≤ 96 + g 8 0 5) ∧ v1 < 6 := by omega
                             obtain ⟨hz, hl, h6⟩ := hz
                             subst hz
                             rw [cif_t rfl, fr_l ⟨hl, h6⟩]
                             have e := ih (k + 1) (v1 + 1) (v2 + 0) 0 (vI (g 21 0 k)) (vI 1) (by omega) (by omega) (by omega) (by omega) (by omega) (by omega) (by omega) (by omega)
                             rw [cif_t rfl] at e
                             exact e)
                          | (have hz : ld = 1 ∧ (97 ≤ g 21 0 k ∧ g 21 0 k ≤ 96 + g 8 0 5) ∧ v2 < 6 := by omega
                             obtain ⟨hz, hl, h6⟩ := hz
                             subst hz
                             rw [cif_f (by decide), fr_l ⟨hl, h6⟩]
                             have e := ih (k + 1) (v1 + 0) (v2 + 1) 1 (vI (g 21 0 k)) (vI 1) (by omega) (by omega) (by omega) (by omega) (by omega) (by omega) (by omega) (by omega)
                             rw [cif_f (by decide)] at e
                             exact e)
                          | (have hz : ld = 0 ∧ ¬ (97 ≤ g 21 0 k ∧ g 21 0 k ≤ 96 + g 8 0 5) ∧ (g 21 0 k = 62 ∨ g 21 0 k = 61) ∧ 0 < v1 ∧ v2 = 0 := by omega
                             obtain ⟨hz, hl, h6, h7, h8⟩ := hz
                             subst hz
                             subst h8
                             rw [cif_t rfl, fr_a (fun z => hl z.1) ⟨h6, rfl, h7⟩]
                             have e := ih (k + 1) (v1 + 0) (0 + 0) 1 (vI (g 21 0 k)) (vI 1) (by omega) (by omega) (by omega) (by omega) (by omega) (by omega) (by omega) (by omega)
                             rw [cif_f (by decide)] at e
                             exact e)
                      · refine o_iconst (n := 150) rfl rfl ?_
                        refine o_goto (t := 154) rfl rfl ?_
                        refine o_iadd (n := 155) rfl rfl (by omega) ?_
                        refine o_istore_2 (n := 156) rfl rfl rfl ?_
                        refine o_iinc_4 (n := 159) rfl rfl rfl (by omega) ?_
                        refine o_goto (t := 9) rfl rfl ?_
                        first
                          | (exfalso; omega; done)
                          | (have hz : ld = 0 ∧ (97 ≤ g 21 0 k ∧ g 21 0 k ≤ 96 + g 8 0 5) ∧ v1 < 6 := by omega
                             obtain ⟨hz, hl, h6⟩ := hz
                             subst hz
                             rw [cif_t rfl, fr_l ⟨hl, h6⟩]
                             have e := ih (k + 1) (v1 + 1) (v2 + 0) 0 (vI (g 21 0 k)) (vI 1) (by omega) (by omega) (by omega) (by omega) (by omega) (by omega) (by omega) (by omega)
                             rw [cif_t rfl] at e
                             exact e)
                          | (have hz : ld = 1 ∧ (97 ≤ g 21 0 k ∧ g 21 0 k ≤ 96 + g 8 0 5) ∧ v2 < 6 := by omega
                             obtain ⟨hz, hl, h6⟩ := hz
                             subst hz
                             rw [cif_f (by decide), fr_l ⟨hl, h6⟩]
                             have e := ih (k + 1) (v1 + 0) (v2 + 1) 1 (vI (g 21 0 k)) (vI 1) (by omega) (by omega) (by omega) (by omega) (by omega) (by omega) (by omega) (by omega)
                             rw [cif_f (by decide)] at e
                             exact e)
                          | (have hz : ld = 0 ∧ ¬ (97 ≤ g 21 0 k ∧ g 21 0 k ≤ 96 + g 8 0 5) ∧ (g 21 0 k = 62 ∨ g 21 0 k = 61) ∧ 0 < v1 ∧ v2 = 0 := by omega
                             obtain ⟨hz, hl, h6, h7, h8⟩ := hz
                             subst hz
                             subst h8
                             rw [cif_t rfl, fr_a (fun z => hl z.1) ⟨h6, rfl, h7⟩]
                             have e := ih (k + 1) (v1 + 0) (0 + 0) 1 (vI (g 21 0 k)) (vI 1) (by omega) (by omega) (by omega) (by omega) (by omega) (by omega) (by omega) (by omega)
                             rw [cif_f (by decide)] at e
                             exact e)
                  · refine o_iconst (n := 129) rfl rfl ?_
                    refine o_goto (t := 133) rfl rfl ?_
                    refine o_iadd (n := 134) rfl rfl (by omega) ?_
                    refine o_istore_1 (n := 135) rfl rfl rfl ?_
                    refine o_iload_n (n := 136) rfl rfl rfl ?_
                    refine o_aload_n (n := 137) rfl rfl rfl ?_
                    refine o_iload (n := 139) rfl rfl rfl ?_
                    refine o_invi (n := 142) rfl rfl rfl rfl rfl rfl rfl rfl rfl rfl (c8_isSign _ hs0 hs1) ?_
                    refine o_ifb_eq (n := 145) (t := 153) rfl rfl rfl (fun k142 => ?_) (fun k142 => ?_)
                    · refine o_iconst (n := 154) rfl rfl ?_
                      refine o_iadd (n := 155) rfl rfl (by omega) ?_
                      refine o_istore_2 (n := 156) rfl rfl rfl ?_
                      refine o_iinc_4 (n := 159) rfl rfl rfl (by omega) ?_
                      refine o_goto (t := 9) rfl rfl ?_
                      first
                        | (exfalso; omega; done)
                        | (have hz : ld = 0 ∧ (97 ≤ g 21 0 k ∧ g 21 0 k ≤ 96 + g 8 0 5) ∧ v1 < 6 := by omega
                           obtain ⟨hz, hl, h6⟩ := hz
                           subst hz
                           rw [cif_t rfl, fr_l ⟨hl, h6⟩]
                           have e := ih (k + 1) (v1 + 1) (v2 + 0) 0 (vI (g 21 0 k)) (vI 1) (by omega) (by omega) (by omega) (by omega) (by omega) (by omega) (by omega) (by omega)
                           rw [cif_t rfl] at e
                           exact e)
                        | (have hz : ld = 1 ∧ (97 ≤ g 21 0 k ∧ g 21 0 k ≤ 96 + g 8 0 5) ∧ v2 < 6 := by omega
                           obtain ⟨hz, hl, h6⟩ := hz
                           subst hz
                           rw [cif_f (by decide), fr_l ⟨hl, h6⟩]
                           have e := ih (k + 1) (v1 + 0) (v2 + 1) 1 (vI (g 21 0 k)) (vI 1) (by omega) (by omega) (by omega) (by omega) (by omega) (by omega) (by omega) (by omega)
                           rw [cif_f (by decide)] at e
                           exact e)
                        | (have hz : ld = 0 ∧ ¬ (97 ≤ g 21 0 k ∧ g 21 0 k ≤ 96 + g 8 0 5) ∧ (g 21 0 k = 62 ∨ g 21 0 k = 61) ∧ 0 < v1 ∧ v2 = 0 := by omega
                           obtain ⟨hz, hl, h6, h7, h8⟩ := hz
                           subst hz
                           subst h8
                           rw [cif_t rfl, fr_a (fun z => hl z.1) ⟨h6, rfl, h7⟩]
                           have e := ih (k + 1) (v1 + 0) (0 + 0) 1 (vI (g 21 0 k)) (vI 1) (by omega) (by omega) (by omega) (by omega) (by omega) (by omega) (by omega) (by omega)
                           rw [cif_f (by decide)] at e
                           exact e)
                    · refine o_iload_n (n := 146) rfl rfl rfl ?_
                      refine o_if_eq (n := 149) (t := 153) rfl rfl rfl (fun k146 => ?_) (fun k146 => ?_)
                      · refine o_iconst (n := 154) rfl rfl ?_
                        refine o_iadd (n := 155) rfl rfl (by omega) ?_
                        refine o_istore_2 (n := 156) rfl rfl rfl ?_
                        refine o_iinc_4 (n := 159) rfl rfl rfl (by omega) ?_
                        refine o_goto (t := 9) rfl rfl ?_
                        first
                          | (exfalso; omega; done)
                          | (have hz : ld = 0 ∧ (97 ≤ g 21 0 k ∧ g 21 0 k ≤ 96 + g 8 0 5) ∧ v1 < 6 := by omega
                             obtain ⟨hz, hl, h6⟩ := hz
                             subst hz
                             rw [cif_t rfl, fr_l ⟨hl, h6⟩]
                             have e := ih (k + 1) (v1 + 1) (v2 + 0) 0 (vI (g 21 0 k)) (vI 1) (by omega) (by omega) (by omega) (by omega) (by omega) (by omega) (by omega) (by omega)
                             rw [cif_t rfl] at e
                             exact e)
                          | (have hz : ld = 1 ∧ (97 ≤ g 21 0 k ∧ g 21 0 k ≤ 96 + g 8 0 5) ∧ v2 < 6 := by omega
                             obtain ⟨hz, hl, h6⟩ := hz
                             subst hz
                             rw [cif_f (by decide), fr_l ⟨hl, h6⟩]
                             have e := ih (k + 1) (v1 + 0) (v2 + 1) 1 (vI (g 21 0 k)) (vI 1) (by omega) (by omega) (by omega) (by omega) (by omega) (by omega) (by omega) (by omega)
                             rw [cif_f (by decide)] at e
                             exact e)
                          | (have hz : ld = 0 ∧ ¬ (97 ≤ g 21 0 k ∧ g 21 0 k ≤ 96 + g 8 0 5) ∧ (g 21 0 k = 62 ∨ g 21 0 k = 61) ∧ 0 < v1 ∧ v2 = 0 := by omega
                             obtain ⟨hz, hl, h6, h7, h8⟩ := hz
                             subst hz
                             subst h8
                             rw [cif_t rfl, fr_a (fun z => hl z.1) ⟨h6, rfl, h7⟩]
                             have e := ih (k + 1) (v1 + 0) (0 + 0) 1 (vI (g 21 0 k)) (vI 1) (by omega) (by omega) (by omega) (by omega) (by omega) (by omega) (by omega) (by omega)
                             rw [cif_f (by decide)] at e
                             exact e)
                      · refine o_iconst (n := 150) rfl rfl ?_
                        refine o_goto (t := 154) rfl rfl ?_
                        refine o_iadd (n := 155) rfl rfl (by omega) ?_
                        refine o_istore_2 (n := 156) rfl rfl rfl ?_
                        refine o_iinc_4 (n := 159) rfl rfl rfl (by omega) ?_
                        refine o_goto (t := 9) rfl rfl ?_
                        first
                          | (exfalso; omega; done)
                          | (have hz : ld = 0 ∧ (97 ≤ g 21 0 k ∧ g 21 0 k ≤ 96 + g 8 0 5) ∧ v1 < 6 := by omega
                             obtain ⟨hz, hl, h6⟩ := hz
                             subst hz
                             rw [cif_t rfl, fr_l ⟨hl, h6⟩]
                             have e := ih (k + 1) (v1 + 1) (v2 + 0) 0 (vI (g 21 0 k)) (vI 1) (by omega) (by omega) (by omega) (by omega) (by omega) (by omega) (by omega) (by omega)
                             rw [cif_t rfl] at e
                             exact e)
                          | (have hz : ld = 1 ∧ (97 ≤ g 21 0 k ∧ g 21 0 k ≤ 96 + g 8 0 5) ∧ v2 < 6 := by omega
                             obtain ⟨hz, hl, h6⟩ := hz
                             subst hz
                             rw [cif_f (by decide), fr_l ⟨hl, h6⟩]
                             have e := ih (k + 1) (v1 + 0) (v2 + 1) 1 (vI (g 21 0 k)) (vI 1) (by omega) (by omega) (by omega) (by omega) (by omega) (by omega) (by omega) (by omega)
                             rw [cif_f (by decide)] at e
                             exact e)
                          | (have hz : ld = 0 ∧ ¬ (97 ≤ g 21 0 k ∧ g 21 0 k ≤ 96 + g 8 0 5) ∧ (g 21 0 k = 62 ∨ g 21 0 k = 61) ∧ 0 < v1 ∧ v2 = 0 := by omega
                             obtain ⟨hz, hl, h6, h7, h8⟩ := hz
                             subst hz
                             subst h8
                             rw [cif_t rfl, fr_a (fun z => hl z.1) ⟨h6, rfl, h7⟩]
                             have e := ih (k + 1) (v1 + 0) (0 + 0) 1 (vI (g 21 0 k)) (vI 1) (by omega) (by omega) (by omega) (by omega) (by omega) (by omega) (by omega) (by omega)
                             rw [cif_f (by decide)] at e
                             exact e)
          · refine o_iload (n := 94) rfl rfl rfl ?_
            refine o_iret rfl rfl ?_
            first
              | (exfalso; omega; done)
              | (refine ⟨congrArg (fun z => some (vI z)) ?_, rfl, rfl⟩
                 by_cases hz : ld = 0
                 · rw [cif_t hz, fr_x (by omega) (by omega)]
                 · rw [cif_f hz, fr_x (by omega) (by omega)])
        · refine o_iload (n := 68) rfl rfl rfl ?_
          refine o_bipush (n := 70) rfl rfl ?_
          refine o_icmp_eq (n := 73) (t := 80) rfl rfl rfl (fun k70 => ?_) (fun k70 => ?_)
          · refine o_iconst (n := 81) rfl rfl ?_
            refine o_goto (t := 85) rfl rfl ?_
            refine o_istore_6 (n := 87) rfl rfl rfl ?_
            refine o_iload (n := 89) rfl rfl rfl ?_
            refine o_if_ne (n := 92) (t := 95) rfl rfl rfl (fun k89 => ?_) (fun k89 => ?_)
            · refine o_iload_n (n := 96) rfl rfl rfl ?_
              refine o_if_ne (n := 99) (t := 108) rfl rfl rfl (fun k96 => ?_) (fun k96 => ?_)
              · refine o_iconst (n := 109) rfl rfl ?_
                refine o_goto (t := 113) rfl rfl ?_
                refine o_istore_3 (n := 114) rfl rfl rfl ?_
                refine o_iload_n (n := 115) rfl rfl rfl ?_
                refine o_aload_n (n := 116) rfl rfl rfl ?_
                refine o_iload (n := 118) rfl rfl rfl ?_
                refine o_invi (n := 121) rfl rfl rfl rfl rfl rfl rfl rfl rfl rfl (c8_isSign _ hs0 hs1) ?_
                refine o_ifb_eq (n := 124) (t := 132) rfl rfl rfl (fun k121 => ?_) (fun k121 => ?_)
                · refine o_iconst (n := 133) rfl rfl ?_
                  refine o_iadd (n := 134) rfl rfl (by omega) ?_
                  refine o_istore_1 (n := 135) rfl rfl rfl ?_
                  refine o_iload_n (n := 136) rfl rfl rfl ?_
                  refine o_aload_n (n := 137) rfl rfl rfl ?_
                  refine o_iload (n := 139) rfl rfl rfl ?_
                  refine o_invi (n := 142) rfl rfl rfl rfl rfl rfl rfl rfl rfl rfl (c8_isSign _ hs0 hs1) ?_
                  refine o_ifb_eq (n := 145) (t := 153) rfl rfl rfl (fun k142 => ?_) (fun k142 => ?_)
                  · refine o_iconst (n := 154) rfl rfl ?_
                    refine o_iadd (n := 155) rfl rfl (by omega) ?_
                    refine o_istore_2 (n := 156) rfl rfl rfl ?_
                    refine o_iinc_4 (n := 159) rfl rfl rfl (by omega) ?_
                    refine o_goto (t := 9) rfl rfl ?_
                    first
                      | (exfalso; omega; done)
                      | (have hz : ld = 0 ∧ (97 ≤ g 21 0 k ∧ g 21 0 k ≤ 96 + g 8 0 5) ∧ v1 < 6 := by omega
                         obtain ⟨hz, hl, h6⟩ := hz
                         subst hz
                         rw [cif_t rfl, fr_l ⟨hl, h6⟩]
                         have e := ih (k + 1) (v1 + 1) (v2 + 0) 0 (vI (g 21 0 k)) (vI 1) (by omega) (by omega) (by omega) (by omega) (by omega) (by omega) (by omega) (by omega)
                         rw [cif_t rfl] at e
                         exact e)
                      | (have hz : ld = 1 ∧ (97 ≤ g 21 0 k ∧ g 21 0 k ≤ 96 + g 8 0 5) ∧ v2 < 6 := by omega
                         obtain ⟨hz, hl, h6⟩ := hz
                         subst hz
                         rw [cif_f (by decide), fr_l ⟨hl, h6⟩]
                         have e := ih (k + 1) (v1 + 0) (v2 + 1) 1 (vI (g 21 0 k)) (vI 1) (by omega) (by omega) (by omega) (by omega) (by omega) (by omega) (by omega) (by omega)
                         rw [cif_f (by decide)] at e
                         exact e)
                      | (have hz : ld = 0 ∧ ¬ (97 ≤ g 21 0 k ∧ g 21 0 k ≤ 96 + g 8 0 5) ∧ (g 21 0 k = 62 ∨ g 21 0 k = 61) ∧ 0 < v1 ∧ v2 = 0 := by omega
                         obtain ⟨hz, hl, h6, h7, h8⟩ := hz
                         subst hz
                         subst h8
                         rw [cif_t rfl, fr_a (fun z => hl z.1) ⟨h6, rfl, h7⟩]
                         have e := ih (k + 1) (v1 + 0) (0 + 0) 1 (vI (g 21 0 k)) (vI 1) (by omega) (by omega) (by omega) (by omega) (by omega) (by omega) (by omega) (by omega)
                         rw [cif_f (by decide)] at e
                         exact e)
                  · refine o_iload_n (n := 146) rfl rfl rfl ?_
                    refine o_if_eq (n := 149) (t := 153) rfl rfl rfl (fun k146 => ?_) (fun k146 => ?_)
                    · refine o_iconst (n := 154) rfl rfl ?_
                      refine o_iadd (n := 155) rfl rfl (by omega) ?_
                      refine o_istore_2 (n := 156) rfl rfl rfl ?_
                      refine o_iinc_4 (n := 159) rfl rfl rfl (by omega) ?_
                      refine o_goto (t := 9) rfl rfl ?_
                      first
                        | (exfalso; omega; done)
                        | (have hz : ld = 0 ∧ (97 ≤ g 21 0 k ∧ g 21 0 k ≤ 96 + g 8 0 5) ∧ v1 < 6 := by omega
                           obtain ⟨hz, hl, h6⟩ := hz
                           subst hz
                           rw [cif_t rfl, fr_l ⟨hl, h6⟩]
                           have e := ih (k + 1) (v1 + 1) (v2 + 0) 0 (vI (g 21 0 k)) (vI 1) (by omega) (by omega) (by omega) (by omega) (by omega) (by omega) (by omega) (by omega)
                           rw [cif_t rfl] at e
                           exact e)
                        | (have hz : ld = 1 ∧ (97 ≤ g 21 0 k ∧ g 21 0 k ≤ 96 + g 8 0 5) ∧ v2 < 6 := by omega
                           obtain ⟨hz, hl, h6⟩ := hz
                           subst hz
                           rw [cif_f (by decide), fr_l ⟨hl, h6⟩]
                           have e := ih (k + 1) (v1 + 0) (v2 + 1) 1 (vI (g 21 0 k)) (vI 1) (by omega) (by omega) (by omega) (by omega) (by omega) (by omega) (by omega) (by omega)
                           rw [cif_f (by decide)] at e
                           exact e)
                        | (have hz : ld = 0 ∧ ¬ (97 ≤ g 21 0 k ∧ g 21 0 k ≤ 96 + g 8 0 5) ∧ (g 21 0 k = 62 ∨ g 21 0 k = 61) ∧ 0 < v1 ∧ v2 = 0 := by omega
                           obtain ⟨hz, hl, h6, h7, h8⟩ := hz
                           subst hz
                           subst h8
                           rw [cif_t rfl, fr_a (fun z => hl z.1) ⟨h6, rfl, h7⟩]
                           have e := ih (k + 1) (v1 + 0) (0 + 0) 1 (vI (g 21 0 k)) (vI 1) (by omega) (by omega) (by omega) (by omega) (by omega) (by omega) (by omega) (by omega)
                           rw [cif_f (by decide)] at e
                           exact e)
                    · refine o_iconst (n := 150) rfl rfl ?_
                      refine o_goto (t := 154) rfl rfl ?_
                      refine o_iadd (n := 155) rfl rfl (by omega) ?_
                      refine o_istore_2 (n := 156) rfl rfl rfl ?_
                      refine o_iinc_4 (n := 159) rfl rfl rfl (by omega) ?_
                      refine o_goto (t := 9) rfl rfl ?_
                      first
                        | (exfalso; omega; done)
                        | (have hz : ld = 0 ∧ (97 ≤ g 21 0 k ∧ g 21 0 k ≤ 96 + g 8 0 5) ∧ v1 < 6 := by omega
                           obtain ⟨hz, hl, h6⟩ := hz
                           subst hz
                           rw [cif_t rfl, fr_l ⟨hl, h6⟩]
                           have e := ih (k + 1) (v1 + 1) (v2 + 0) 0 (vI (g 21 0 k)) (vI 1) (by omega) (by omega) (by omega) (by omega) (by omega) (by omega) (by omega) (by omega)
                           rw [cif_t rfl] at e
                           exact e)
                        | (have hz : ld = 1 ∧ (97 ≤ g 21 0 k ∧ g 21 0 k ≤ 96 + g 8 0 5) ∧ v2 < 6 := by omega
                           obtain ⟨hz, hl, h6⟩ := hz
                           subst hz
                           rw [cif_f (by decide), fr_l ⟨hl, h6⟩]
                           have e := ih (k + 1) (v1 + 0) (v2 + 1) 1 (vI (g 21 0 k)) (vI 1) (by omega) (by omega) (by omega) (by omega) (by omega) (by omega) (by omega) (by omega)
                           rw [cif_f (by decide)] at e
                           exact e)
                        | (have hz : ld = 0 ∧ ¬ (97 ≤ g 21 0 k ∧ g 21 0 k ≤ 96 + g 8 0 5) ∧ (g 21 0 k = 62 ∨ g 21 0 k = 61) ∧ 0 < v1 ∧ v2 = 0 := by omega
                           obtain ⟨hz, hl, h6, h7, h8⟩ := hz
                           subst hz
                           subst h8
                           rw [cif_t rfl, fr_a (fun z => hl z.1) ⟨h6, rfl, h7⟩]
                           have e := ih (k + 1) (v1 + 0) (0 + 0) 1 (vI (g 21 0 k)) (vI 1) (by omega) (by omega) (by omega) (by omega) (by omega) (by omega) (by omega) (by omega)
                           rw [cif_f (by decide)] at e
                           exact e)
                · refine o_iload_n (n := 125) rfl rfl rfl ?_
                  refine o_if_ne (n := 128) (t := 132) rfl rfl rfl (fun k125 => ?_) (fun k125 => ?_)
                  · refine o_iconst (n := 133) rfl rfl ?_
                    refine o_iadd (n := 134) rfl rfl (by omega) ?_
                    refine o_istore_1 (n := 135) rfl rfl rfl ?_
                    refine o_iload_n (n := 136) rfl rfl rfl ?_
                    refine o_aload_n (n := 137) rfl rfl rfl ?_
                    refine o_iload (n := 139) rfl rfl rfl ?_
                    refine o_invi (n := 142) rfl rfl rfl rfl rfl rfl rfl rfl rfl rfl (c8_isSign _ hs0 hs1) ?_
                    refine o_ifb_eq (n := 145) (t := 153) rfl rfl rfl (fun k142 => ?_) (fun k142 => ?_)
                    · refine o_iconst (n := 154) rfl rfl ?_
                      refine o_iadd (n := 155) rfl rfl (by omega) ?_
                      refine o_istore_2 (n := 156) rfl rfl rfl ?_
                      refine o_iinc_4 (n := 159) rfl rfl rfl (by omega) ?_
                      refine o_goto (t := 9) rfl rfl ?_
                      first
                        | (exfalso; omega; done)
                        | (have hz : ld = 0 ∧ (97 ≤ g 21 0 k ∧ g 21 0 k ≤ 96 + g 8 0 5) ∧ v1 < 6 := by omega
                           obtain ⟨hz, hl, h6⟩ := hz
                           subst hz
                           rw [cif_t rfl, fr_l ⟨hl, h6⟩]
                           have e := ih (k + 1) (v1 + 1) (v2 + 0) 0 (vI (g 21 0 k)) (vI 1) (by omega) (by omega) (by omega) (by omega) (by omega) (by omega) (by omega) (by omega)
                           rw [cif_t rfl] at e
                           exact e)
                        | (have hz : ld = 1 ∧ (97 ≤ g 21 0 k ∧ g 21 0 k ≤ 96 + g 8 0 5) ∧ v2 < 6 := by omega
                           obtain ⟨hz, hl, h6⟩ := hz
                           subst hz
                           rw [cif_f (by decide), fr_l ⟨hl, h6⟩]
                           have e := ih (k + 1) (v1 + 0) (v2 + 1) 1 (vI (g 21 0 k)) (vI 1) (by omega) (by omega) (by omega) (by omega) (by omega) (by omega) (by omega) (by omega)
                           rw [cif_f (by decide)] at e
                           exact e)
                        | (have hz : ld = 0 ∧ ¬ (97 ≤ g 21 0 k ∧ g 21 0 k ≤ 96 + g 8 0 5) ∧ (g 21 0 k = 62 ∨ g 21 0 k = 61) ∧ 0 < v1 ∧ v2 = 0 := by omega
                           obtain ⟨hz, hl, h6, h7, h8⟩ := hz
                           subst hz
                           subst h8
                           rw [cif_t rfl, fr_a (fun z => hl z.1) ⟨h6, rfl, h7⟩]
                           have e := ih (k + 1) (v1 + 0) (0 + 0) 1 (vI (g 21 0 k)) (vI 1) (by omega) (by omega) (by omega) (by omega) (by omega) (by omega) (by omega) (by omega)
                           rw [cif_f (by decide)] at e
                           exact e)
                    · refine o_iload_n (n := 146) rfl rfl rfl ?_
                      refine o_if_eq (n := 149) (t := 153) rfl rfl rfl (fun k146 => ?_) (fun k146 => ?_)
                      · refine o_iconst (n := 154) rfl rfl ?_
                        refine o_iadd (n := 155) rfl rfl (by omega) ?_
                        refine o_istore_2 (n := 156) rfl rfl rfl ?_
                        refine o_iinc_4 (n := 159) rfl rfl rfl (by omega) ?_
                        refine o_goto (t := 9) rfl rfl ?_
                        first
                          | (exfalso; omega; done)
                          | (have hz : ld = 0 ∧ (97 ≤ g 21 0 k ∧ g 21 0 k ≤ 96 + g 8 0 5) ∧ v1 < 6 := by omega
                             obtain ⟨hz, hl, h6⟩ := hz
                             subst hz
                             rw [cif_t rfl, fr_l ⟨hl, h6⟩]
                             have e := ih (k + 1) (v1 + 1) (v2 + 0) 0 (vI (g 21 0 k)) (vI 1) (by omega) (by omega) (by omega) (by omega) (by omega) (by omega) (by omega) (by omega)
                             rw [cif_t rfl] at e
                             exact e)
                          | (have hz : ld = 1 ∧ (97 ≤ g 21 0 k ∧ g 21 0 k ≤ 96 + g 8 0 5) ∧ v2 < 6 := by omega
                             obtain ⟨hz, hl, h6⟩ := hz
                             subst hz
                             rw [cif_f (by decide), fr_l ⟨hl, h6⟩]
                             have e := ih (k + 1) (v1 + 0) (v2 + 1) 1 (vI (g 21 0 k)) (vI 1) (by omega) (by omega) (by omega) (by omega) (by omega) (by omega) (by omega) (by omega)
                             rw [cif_f (by decide)] at e
                             exact e)
                          | (have hz : ld = 0 ∧ ¬ (97 ≤ g 21 0 k ∧ g 21 0 k ≤ 96 + g 8 0 5) ∧ (g 21 0 k = 62 ∨ g 21 0 k = 61) ∧ 0 < v1 ∧ v2 = 0 := by omega
                             obtain ⟨hz, hl, h6, h7, h8⟩ := hz
                             subst hz
                             subst h8
                             rw [cif_t rfl, fr_a (fun z => hl z.1) ⟨h6, rfl, h7⟩]
                             have e := ih (k + 1) (v1 + 0) (0 + 0) 1 (vI (g 21 0 k)) (vI 1) (by omega) (by omega) (by omega) (by omega) (by omega) (by omega) (by omega) (by omega)
                             rw [cif_f (by decide)] at e
                             exact e)
                      · refine o_iconst (n := 150) rfl rfl ?_
                        refine o_goto (t := 154) rfl rfl ?_
                        refine o_iadd (n := 155) rfl rfl (by omega) ?_
                        refine o_istore_2 (n := 156) rfl rfl rfl ?_
                        refine o_iinc_4 (n := 159) rfl rfl rfl (by omega) ?_
                        refine o_goto (t := 9) rfl rfl ?_
                        first
                          | (exfalso; omega; done)
                          | (have hz : ld = 0 ∧ (97 ≤ g 21 0 k ∧ g 21 0 k ≤ 96 + g 8 0 5) ∧ v1 < 6 := by omega
                             obtain ⟨hz, hl, h6⟩ := hz
                             subst hz
                             rw [cif_t rfl, fr_l ⟨hl, h6⟩]
                             have e := ih (k + 1) (v1 + 1) (v2 + 0) 0 (vI (g 21 0 k)) (vI 1) (by omega) (by omega) (by omega) (by omega) (by omega) (by omega) (by omega) (by omega)
                             rw [cif_t rfl] at e
                             exact e)
                          | (have hz : ld = 1 ∧ (97 ≤ g 21 0 k ∧ g 21 0 k ≤ 96 + g 8 0 5) ∧ v2 < 6 := by omega
                             obtain ⟨hz, hl, h6⟩ := hz
                             subst hz
                             rw [cif_f (by decide), fr_l ⟨hl, h6⟩]
                             have e := ih (k + 1) (v1 + 0) (v2 + 1) 1 (vI (g 21 0 k)) (vI 1) (by omega) (by omega) (by omega) (by omega) (by omega) (by omega) (by omega) (by omega)
                             rw [cif_f (by decide)] at e
                             exact e)
                          | (have hz : ld = 0 ∧ ¬ (97 ≤ g 21 0 k ∧ g 21 0 k ≤ 96 + g 8 0 5) ∧ (g 21 0 k = 62 ∨ g 21 0 k = 61) ∧ 0 < v1 ∧ v2 = 0 := by omega
                             obtain ⟨hz, hl, h6, h7, h8⟩ := hz
                             subst hz
                             subst h8
                             rw [cif_t rfl, fr_a (fun z => hl z.1) ⟨h6, rfl, h7⟩]
                             have e := ih (k + 1) (v1 + 0) (0 + 0) 1 (vI (g 21 0 k)) (vI 1) (by omega) (by omega) (by omega) (by omega) (by omega) (by omega) (by omega) (by omega)
                             rw [cif_f (by decide)] at e
                             exact e)
                  · refine o_iconst (n := 129) rfl rfl ?_
                    refine o_goto (t := 133) rfl rfl ?_
                    refine o_iadd (n := 134) rfl rfl (by omega) ?_
                    refine o_istore_1 (n := 135) rfl rfl rfl ?_
                    refine o_iload_n (n := 136) rfl rfl rfl ?_
                    refine o_aload_n (n := 137) rfl rfl rfl ?_
                    refine o_iload (n := 139) rfl rfl rfl ?_
                    refine o_invi (n := 142) rfl rfl rfl rfl rfl rfl rfl rfl rfl rfl (c8_isSign _ hs0 hs1) ?_
                    refine o_ifb_eq (n := 145) (t := 153) rfl rfl rfl (fun k142 => ?_) (fun k142 => ?_)
                    · refine o_iconst (n := 154) rfl rfl ?_
                      refine o_iadd (n := 155) rfl rfl (by omega) ?_
                      refine o_istore_2 (n := 156) rfl rfl rfl ?_
                      refine o_iinc_4 (n := 159) rfl rfl rfl (by omega) ?_
                      refine o_goto (t := 9) rfl rfl ?_
                      first
                        | (exfalso; omega; done)
                        | (have hz : ld = 0 ∧ (97 ≤ g 21 0 k ∧ g 21 0 k ≤ 96 + g 8 0 5) ∧ v1 < 6 := by omega
                           obtain ⟨hz, hl, h6⟩ := hz
                           subst hz
                           rw [cif_t rfl, fr_l ⟨hl, h6⟩]
                           have e := ih (k + 1) (v1 + 1) (v2 + 0) 0 (vI (g 21 0 k)) (vI 1) (by omega) (by omega) (by omega) (by omega) (by omega) (by omega) (by omega) (by omega)
                           rw [cif_t rfl] at e
                           exact e)
                        | (have hz : ld = 1 ∧ (97 ≤ g 21 0 k ∧ g 21 0 k ≤ 96 + g 8 0 5) ∧ v2 < 6 := by omega
                           obtain ⟨hz, hl, h6⟩ := hz
                           subst hz
                           rw [cif_f (by decide), fr_l ⟨hl, h6⟩]
                           have e := ih (k + 1) (v1 + 0) (v2 + 1) 1 (vI (g 21 0 k)) (vI 1) (by omega) (by omega) (by omega) (by omega) (by omega) (by omega) (by omega) (by omega)
                           rw [cif_f (by decide)] at e
                           exact e)
                        | (have hz : ld = 0 ∧ ¬ (97 ≤ g 21 0 k ∧ g 21 0 k ≤ 96 + g 8 0 5) ∧ (g 21 0 k = 62 ∨ g 21 0 k = 61) ∧ 0 < v1 ∧ v2 = 0 := by omega
                           obtain ⟨hz, hl, h6, h7, h8⟩ := hz
                           subst hz
                           subst h8
                           rw [cif_t rfl, fr_a (fun z => hl z.1) ⟨h6, rfl, h7⟩]
                           have e := ih (k + 1) (v1 + 0) (0 + 0) 1 (vI (g 21 0 k)) (vI 1) (by omega) (by omega) (by omega) (by omega) (by omega) (by omega) (by omega) (by omega)
                           rw [cif_f (by decide)] at e
                           exact e)
                    · refine o_iload_n (n := 146) rfl rfl rfl ?_
                      refine o_if_eq (n := 149) (t := 153) rfl rfl rfl (fun k146 => ?_) (fun k146 => ?_)
                      · refine o_iconst (n := 154) rfl rfl ?_
                        refine o_iadd (n := 155) rfl rfl (by omega) ?_
                        refine o_istore_2 (n := 156) rfl rfl rfl ?_
                        refine o_iinc_4 (n := 159) rfl rfl rfl (by omega) ?_
                        refine o_goto (t := 9) rfl rfl ?_
                        first
                          | (exfalso; omega; done)
                          | (have hz : ld = 0 ∧ (97 ≤ g 21 0 k ∧ g 21 0 k ≤ 96 + g 8 0 5) ∧ v1 < 6 := by omega
                             obtain ⟨hz, hl, h6⟩ := hz
                             subst hz
                             rw [cif_t rfl, fr_l ⟨hl, h6⟩]
                             have e := ih (k + 1) (v1 + 1) (v2 + 0) 0 (vI (g 21 0 k)) (vI 1) (by omega) (by omega) (by omega) (by omega) (by omega) (by omega) (by omega) (by omega)
                             rw [cif_t rfl] at e
                             exact e)
                          | (have hz : ld = 1 ∧ (97 ≤ g 21 0 k ∧ g 21 0 k ≤ 96 + g 8 0 5) ∧ v2 < 6 := by omega
                             obtain ⟨hz, hl, h6⟩ := hz
                             subst hz
                             rw [cif_f (by decide), fr_l ⟨hl, h6⟩]
                             have e := ih (k + 1) (v1 + 0) (v2 + 1) 1 (vI (g 21 0 k)) (vI 1) (by omega) (by omega) (by omega) (by omega) (by omega) (by omega) (by omega) (by omega)
                             rw [cif_f (by decide)] at e
                             exact e)
                          | (have hz : ld = 0 ∧ ¬ (97 ≤ g 21 0 k ∧ g 21 0 k ≤ 96 + g 8 0 5) ∧ (g 21 0 k = 62 ∨ g 21 0 k = 61) ∧ 0 < v1 ∧ v2 = 0 := by omega
                             obtain ⟨hz, hl, h6, h7, h8⟩ := hz
                             subst hz
                             subst h8
                             rw [cif_t rfl, fr_a (fun z => hl z.1) ⟨h6, rfl, h7⟩]
                             have e := ih (k + 1) (v1 + 0) (0 + 0) 1 (vI (g 21 0 k)) (vI 1) (by omega) (by omega) (by omega) (by omega) (by omega) (by omega) (by omega) (by omega)
                             rw [cif_f (by decide)] at e
                             exact e)
                      · refine o_iconst (n := 150) rfl rfl ?_
                        refine o_goto (t := 154) rfl rfl ?_
                        refine o_iadd (n := 155) rfl rfl (by omega) ?_
                        refine o_istore_2 (n := 156) rfl rfl rfl ?_
                        refine o_iinc_4 (n := 159) rfl rfl rfl (by omega) ?_
                        refine o_goto (t := 9) rfl rfl ?_
                        first
                          | (exfalso; omega; done)
                          | (have hz : ld = 0 ∧ (97 ≤ g 21 0 k ∧ g 21 0 k ≤ 96 + g 8 0 5) ∧ v1 < 6 := by omega
                             obtain ⟨hz, hl, h6⟩ := hz
                             subst hz
                             rw [cif_t rfl, fr_l ⟨hl, h6⟩]
                             have e := ih (k + 1) (v1 + 1) (v2 + 0) 0 (vI (g 21 0 k)) (vI 1) (by omega) (by omega) (by omega) (by omega) (by omega) (by omega) (by omega) (by omega)
                             rw [cif_t rfl] at e
                             exact e)
                          | (have hz : ld = 1 ∧ (97 ≤ g 21 0 k ∧ g 21 0 k ≤ 96 + g 8 0 5) ∧ v2 < 6 := by omega
                             obtain ⟨hz, hl, h6⟩ := hz
                             subst hz
                             rw [cif_f (by decide), fr_l ⟨hl, h6⟩]
                             have e := ih (k + 1) (v1 + 0) (v2 + 1) 1 (vI (g 21 0 k)) (vI 1) (by omega) (by omega) (by omega) (by omega) (by omega) (by omega) (by omega) (by omega)
                             rw [cif_f (by decide)] at e
                             exact e)
                          | (have hz : ld = 0 ∧ ¬ (97 ≤ g 21 0 k ∧ g 21 0 k ≤ 96 + g 8 0 5) ∧ (g 21 0 k = 62 ∨ g 21 0 k = 61) ∧ 0 < v1 ∧ v2 = 0 := by omega
                             obtain ⟨hz, hl, h6, h7, h8⟩ := hz
                             subst hz
                             subst h8
                             rw [cif_t rfl, fr_a (fun z => hl z.1) ⟨h6, rfl, h7⟩]
                             have e := ih (k + 1) (v1 + 0) (0 + 0) 1 (vI (g 21 0 k)) (vI 1) (by omega) (by omega) (by omega) (by omega) (by omega) (by omega) (by omega) (by omega)
                             rw [cif_f (by decide)] at e
                             exact e)
              · refine o_aload_n (n := 100) rfl rfl rfl ?_
                refine o_iload (n := 102) rfl rfl rfl ?_
                refine o_invi (n := 105) rfl rfl rfl rfl rfl rfl rfl rfl rfl rfl (c8_isSign _ hs0 hs1) ?_
                refine o_ifb_ne (n := 108) (t := 112) rfl rfl rfl (fun k105 => ?_) (fun k105 => ?_)
                · refine o_iconst (n := 113) rfl rfl ?_
                  refine o_istore_3 (n := 114) rfl rfl rfl ?_
                  refine o_iload_n (n := 115) rfl rfl rfl ?_
                  refine o_aload_n (n := 116) rfl rfl rfl ?_
                  refine o_iload (n := 118) rfl rfl rfl ?_
                  refine o_invi (n := 121) rfl rfl rfl rfl rfl rfl rfl rfl rfl rfl (c8_isSign _ hs0 hs1) ?_
                  refine o_ifb_eq (n := 124) (t := 132) rfl rfl rfl (fun k121 => ?_) (fun k121 => ?_)
                  · refine o_iconst (n := 133) rfl rfl ?_
                    refine o_iadd (n := 134) rfl rfl (by omega) ?_
                    refine o_istore_1 (n := 135) rfl rfl rfl ?_
                    refine o_iload_n (n := 136) rfl rfl rfl ?_
                    refine o_aload_n (n := 137) rfl rfl rfl ?_
                    refine o_iload (n := 139) rfl rfl rfl ?_
                    refine o_invi (n := 142) rfl rfl rfl rfl rfl rfl rfl rfl rfl rfl (c8_isSign _ hs0 hs1) ?_
                    refine o_ifb_eq (n := 145) (t := 153) rfl rfl rfl (fun k142 => ?_) (fun k142 => ?_)
                    · refine o_iconst (n := 154) rfl rfl ?_
                      refine o_iadd (n := 155) rfl rfl (by omega) ?_
                      refine o_istore_2 (n := 156) rfl rfl rfl ?_
                      refine o_iinc_4 (n := 159) rfl rfl rfl (by omega) ?_
                      refine o_goto (t := 9) rfl rfl ?_
                      first
                        | (exfalso; omega; done)
                        | (have hz : ld = 0 ∧ (97 ≤ g 21 0 k ∧ g 21 0 k ≤ 96 + g 8 0 5) ∧ v1 < 6 := by omega
                           obtain ⟨hz, hl, h6⟩ := hz
                           subst hz
                           rw [cif_t rfl, fr_l ⟨hl, h6⟩]
                           have e := ih (k + 1) (v1 + 1) (v2 + 0) 0 (vI (g 21 0 k)) (vI 1) (by omega) (by omega) (by omega) (by omega) (by omega) (by omega) (by omega) (by omega)
                           rw [cif_t rfl] at e
                           exact e)
                        | (have hz : ld = 1 ∧ (97 ≤ g 21 0 k ∧ g 21 0 k ≤ 96 + g 8 0 5) ∧ v2 < 6 := by omega
                           obtain ⟨hz, hl, h6⟩ := hz
                           subst hz
                           rw [cif_f (by decide), fr_l ⟨hl, h6⟩]
                           have e := ih (k + 1) (v1 + 0) (v2 + 1) 1 (vI (g 21 0 k)) (vI 1) (by omega) (by omega) (by omega) (by omega) (by omega) (by omega) (by omega) (by omega)
                           rw [cif_f (by decide)] at e
                           exact e)
                        | (have hz : ld = 0 ∧ ¬ (97 ≤ g 21 0 k ∧ g 21 0 k ≤ 96 + g 8 0 5) ∧ (g 21 0 k = 62 ∨ g 21 0 k = 61) ∧ 0 < v1 ∧ v2 = 0 := by omega
                           obtain ⟨hz, hl, h6, h7, h8⟩ := hz
                           subst hz
                           subst h8
                           rw [cif_t rfl, fr_a (fun z => hl z.1) ⟨h6, rfl, h7⟩]
                           have e := ih (k + 1) (v1 + 0) (0 + 0) 1 (vI (g 21 0 k)) (vI 1) (by omega) (by omega) (by omega) (by omega) (by omega) (by omega) (by omega) (by omega)
                           rw [cif_f (by decide)] at e
                           exact e)
                    · refine o_iload_n (n := 146) rfl rfl rfl ?_
                      refine o_if_eq (n := 149) (t := 153) rfl rfl rfl (fun k146 => ?_) (fun k146 => ?_)
                      · refine o_iconst (n := 154) rfl rfl ?_
                        refine o_iadd (n := 155) rfl rfl (by omega) ?_
                        refine o_istore_2 (n := 156) rfl rfl rfl ?_
                        refine o_iinc_4 (n := 159) rfl rfl rfl (by omega) ?_
                        refine o_goto (t := 9) rfl rfl ?_
                        first
                          | (exfalso; omega; done)
                          | (have hz : ld = 0 ∧ (97 ≤ g 21 0 k ∧ g 21 0 k ≤ 96 + g 8 0 5) ∧ v1 < 6 := by omega
                             obtain ⟨hz, hl, h6⟩ := hz
                             subst hz
                             rw [cif_t rfl, fr_l ⟨hl, h6⟩]
                             have e := ih (k + 1) (v1 + 1) (v2 + 0) 0 (vI (g 21 0 k)) (vI 1) (by omega) (by omega) (by omega) (by omega) (by omega) (by omega) (by omega) (by omega)
                             rw [cif_t rfl] at e
                             exact e)
                          | (have hz : ld = 1 ∧ (97 ≤ g 21 0 k ∧ g 21 0 k ≤ 96 + g 8 0 5) ∧ v2 < 6 := by omega
                             obtain ⟨hz, hl, h6⟩ := hz
                             subst hz
                             rw [cif_f (by decide), fr_l ⟨hl, h6⟩]
                             have e := ih (k + 1) (v1 + 0) (v2 + 1) 1 (vI (g 21 0 k)) (vI 1) (by omega) (by omega) (by omega) (by omega) (by omega) (by omega) (by omega) (by omega)
                             rw [cif_f (by decide)] at e
                             exact e)
                          | (have hz : ld = 0 ∧ ¬ (97 ≤ g 21 0 k ∧ g 21 0 k ≤ 96 + g 8 0 5) ∧ (g 21 0 k = 62 ∨ g 21 0 k = 61) ∧ 0 < v1 ∧ v2 = 0 := by omega
                             obtain ⟨hz, hl, h6, h7, h8⟩ := hz
                             subst hz
                             subst h8
                             rw [cif_t rfl, fr_a (fun z => hl z.1) ⟨h6, rfl, h7⟩]
                             have e := ih (k + 1) (v1 + 0) (0 + 0) 1 (vI (g 21 0 k)) (vI 1) (by omega) (by omega) (by omega) (by omega) (by omega) (by omega) (by omega) (by omega)
                             rw [cif_f (by decide)] at e
                             exact e)
                      · refine o_iconst (n := 150) rfl rfl ?_
                        refine o_goto (t := 154) rfl rfl ?_
                        refine o_iadd (n := 155) rfl rfl (by omega) ?_
                        refine o_istore_2 (n := 156) rfl rfl rfl ?_
                        refine o_iinc_4 (n := 159) rfl rfl rfl (by omega) ?_
                        refine o_goto (t := 9) rfl rfl ?_
                        first
                          | (exfalso; omega; done)
                          | (have hz : ld = 0 ∧ (97 ≤ g 21 0 k ∧ g 21 0 k ≤ 96 + g 8 0 5) ∧ v1 < 6 := by omega
                             obtain ⟨hz, hl, h6⟩ := hz
                             subst hz
                             rw [cif_t rfl, fr_l ⟨hl, h6⟩]
                             have e := ih (k + 1) (v1 + 1) (v2 + 0) 0 (vI (g 21 0 k)) (vI 1) (by omega) (by omega) (by omega) (by omega) (by omega) (by omega) (by omega) (by omega)
                             rw [cif_t rfl] at e
                             exact e)
                          | (have hz : ld = 1 ∧ (97 ≤ g 21 0 k ∧ g 21 0 k ≤ 96 + g 8 0 5) ∧ v2 < 6 := by omega
                             obtain ⟨hz, hl, h6⟩ := hz
                             subst hz
                             rw [cif_f (by decide), fr_l ⟨hl, h6⟩]
                             have e := ih (k + 1) (v1 + 0) (v2 + 1) 1 (vI (g 21 0 k)) (vI 1) (by omega) (by omega) (by omega) (by omega) (by omega) (by omega) (by omega) (by omega)
                             rw [cif_f (by decide)] at e
                             exact e)
                          | (have hz : ld = 0 ∧ ¬ (97 ≤ g 21 0 k ∧ g 21 0 k ≤ 96 + g 8 0 5) ∧ (g 21 0 k = 62 ∨ g 21 0 k = 61) ∧ 0 < v1 ∧ v2 = 0 := by omega
                             obtain ⟨hz, hl, h6, h7, h8⟩ := hz
                             subst hz
                             subst h8
                             rw [cif_t rfl, fr_a (fun z => hl z.1) ⟨h6, rfl, h7⟩]
                             have e := ih (k + 1) (v1 + 0) (0 + 0) 1 (vI (g 21 0 k)) (vI 1) (by omega) (by omega) (by omega) (by omega) (by omega) (by omega) (by omega) (by omega)
                             rw [cif_f (by decide)] at e
                             exact e)
                  · refine o_iload_n (n := 125) rfl rfl rfl ?_
                    refine o_if_ne (n := 128) (t := 132) rfl rfl rfl (fun k125 => ?_) (fun k125 => ?_)
                    · refine o_iconst (n := 133) rfl rfl ?_
                      refine o_iadd (n := 134) rfl rfl (by omega) ?_
                      refine o_istore_1 (n := 135) rfl rfl rfl ?_
                      refine o_iload_n (n := 136) rfl rfl rfl ?_
                      refine o_aload_n (n := 137) rfl rfl rfl ?_
                      refine o_iload (n := 139) rfl rfl rfl ?_
                      refine o_invi (n := 142) rfl rfl rfl rfl rfl rfl rfl rfl rfl rfl (c8_isSign _ hs0 hs1) ?_
                      refine o_ifb_eq (n := 145) (t := 153) rfl rfl rfl (fun k142 => ?_) (fun k142 => ?_)
                      · refine o_iconst (n := 154) rfl rfl ?_
                        refine o_iadd (n := 155) rfl rfl (by omega) ?_
                        refine o_istore_2 (n := 156) rfl rfl rfl ?_
                        refine o_iinc_4 (n := 159) rfl rfl rfl (by omega) ?_
                        refine o_goto (t := 9) rfl rfl ?_
                        first
                          | (exfalso; omega; done)
                          | (have hz : ld = 0 ∧ (97 ≤ g 21 0 k ∧ g 21 0 k ≤ 96 + g 8 0 5) ∧ v1 < 6 := by omega
                             obtain ⟨hz, hl, h6⟩ := hz
                             subst hz
                             rw [cif_t rfl, fr_l ⟨hl, h6⟩]
                             have e := ih (k + 1) (v1 + 1) (v2 + 0) 0 (vI (g 21 0 k)) (vI 1) (by omega) (by omega) (by omega) (by omega) (by omega) (by omega) (by omega) (by omega)
                             rw [cif_t rfl] at e
                             exact e)
                          | (have hz : ld = 1 ∧ (97 ≤ g 21 0 k ∧ g 21 0 k ≤ 96 + g 8 0 5) ∧ v2 < 6 := by omega
                             obtain ⟨hz, hl, h6⟩ := hz
                             subst hz
                             rw [cif_f (by decide), fr_l ⟨hl, h6⟩]
                             have e := ih (k + 1) (v1 + 0) (v2 + 1) 1 (vI (g 21 0 k)) (vI 1) (by omega) (by omega) (by omega) (by omega) (by omega) (by omega) (by omega) (by omega)
                             rw [cif_f (by decide)] at e
                             exact e)
                          | (have hz : ld = 0 ∧ ¬ (97 ≤ g 21 0 k ∧ g 21 0 k ≤ 96 + g 8 0 5) ∧ (g 21 0 k = 62 ∨ g 21 0 k = 61) ∧ 0 < v1 ∧ v2 = 0 := by omega
                             obtain ⟨hz, hl, h6, h7, h8⟩ := hz
                             subst hz
                             subst h8
                             rw [cif_t rfl, fr_a (fun z => hl z.1) ⟨h6, rfl, h7⟩]
                             have e := ih (k + 1) (v1 + 0) (0 + 0) 1 (vI (g 21 0 k)) (vI 1) (by omega) (by omega) (by omega) (by omega) (by omega) (by omega) (by omega) (by omega)
                             rw [cif_f (by decide)] at e
                             exact e)
                      · refine o_iload_n (n := 146) rfl rfl rfl ?_
                        refine o_if_eq (n := 149) (t := 153) rfl rfl rfl (fun k146 => ?_) (fun k146 => ?_)
                        · refine o_iconst (n := 154) rfl rfl ?_
                          refine o_iadd (n := 155) rfl rfl (by omega) ?_
                          refine o_istore_2 (n := 156) rfl rfl rfl ?_
                          refine o_iinc_4 (n := 159) rfl rfl rfl (by omega) ?_
                          refine o_goto (t := 9) rfl rfl ?_
                          first
                            | (exfalso; omega; done)
                            | (have hz : ld = 0 ∧ (97 ≤ g 21 0 k ∧ g 21 0 k ≤ 96 + g 8 0 5) ∧ v1 < 6 := by omega
                               obtain ⟨hz, hl, h6⟩ := hz
                               subst hz
                               rw [cif_t rfl, fr_l ⟨hl, h6⟩]
                               have e := ih (k + 1) (v1 + 1) (v2 + 0) 0 (vI (g 21 0 k)) (vI 1) (by omega) (by omega) (by omega) (by omega) (by omega) (by omega) (by omega) (by omega)
                               rw [cif_t rfl] at e
                               exact e)
                            | (have hz : ld = 1 ∧ (97 ≤ g 21 0 k ∧ g 21 0 k ≤ 96 + g 8 0 5) ∧ v2 < 6 := by omega
                               obtain ⟨hz, hl, h6⟩ := hz
                               subst hz
                               rw [cif_f (by decide), fr_l ⟨hl, h6⟩]
                               have e := ih (k + 1) (v1 + 0) (v2 + 1) 1 (vI (g 21 0 k)) (vI 1) (by omega) (by omega) (by omega) (by omega) (by omega) (by omega) (by omega) (by omega)
                               rw [cif_f (by decide)] at e
                               exact e)
                            | (have hz : ld = 0 ∧ ¬ (97 ≤ g 21 0 k ∧ g 21 0 k ≤ 96 + g 8 0 5) ∧ (g 21 0 k = 62 ∨ g 21 0 k = 61) ∧ 0 < v1 ∧ v2 = 0 := by omega
                               obtain ⟨hz, hl, h6, h7, h8⟩ := hz
                               subst hz
                               subst h8
                               rw [cif_t rfl, fr_a (fun z => hl z.1) ⟨h6, rfl, h7⟩]
                               have e := ih (k + 1) (v1 + 0) (0 + 0) 1 (vI (g 21 0 k)) (vI 1) (by omega) (by omega) (by omega) (by omega) (by omega) (by omega) (by omega) (by omega)
                               rw [cif_f (by decide)] at e
                               exact e)
                        · refine o_iconst (n := 150) rfl rfl ?_
                          refine o_goto (t := 154) rfl rfl ?_
                          refine o_iadd (n := 155) rfl rfl (by omega) ?_
                          refine o_istore_2 (n := 156) rfl rfl rfl ?_
                          refine o_iinc_4 (n := 159) rfl rfl rfl (by omega) ?_
                          refine o_goto (t := 9) rfl rfl ?_
                          first
                            | (exfalso; omega; done)
                            | (have hz : ld = 0 ∧ (97 ≤ g 21 0 k ∧ g 21 0 k ≤ 96 + g 8 0 5) ∧ v1 < 6 := by omega
                               obtain ⟨hz, hl, h6⟩ := hz
                               subst hz
                               rw [cif_t rfl, fr_l ⟨hl, h6⟩]
                               have e := ih (k + 1) (v1 + 1) (v2 + 0) 0 (vI (g 21 0 k)) (vI 1) (by omega) (by omega) (by omega) (by omega) (by omega) (by omega) (by omega) (by omega)
                               rw [cif_t rfl] at e
                               exact e)
                            | (have hz : ld = 1 ∧ (97 ≤ g 21 0 k ∧ g 21 0 k ≤ 96 + g 8 0 5) ∧ v2 < 6 := by omega
                               obtain ⟨hz, hl, h6⟩ := hz
                               subst hz
                               rw [cif_f (by decide), fr_l ⟨hl, h6⟩]
                               have e := ih (k + 1) (v1 + 0) (v2 + 1) 1 (vI (g 21 0 k)) (vI 1) (by omega) (by omega) (by omega) (by omega) (by omega) (by omega) (by omega) (by omega)
                               rw [cif_f (by decide)] at e
                               exact e)
                            | (have hz : ld = 0 ∧ ¬ (97 ≤ g 21 0 k ∧ g 21 0 k ≤ 96 + g 8 0 5) ∧ (g 21 0 k = 62 ∨ g 21 0 k = 61) ∧ 0 < v1 ∧ v2 = 0 := by omega
                               obtain ⟨hz, hl, h6, h7, h8⟩ := hz
                               subst hz
                               subst h8
                               rw [cif_t rfl, fr_a (fun z => hl z.1) ⟨h6, rfl, h7⟩]
                               have e := ih (k + 1) (v1 + 0) (0 + 0) 1 (vI (g 21 0 k)) (vI 1) (by omega) (by omega) (by omega) (by omega) (by omega) (by omega) (by omega) (by omega)
                               rw [cif_f (by decide)] at e
                               exact e)
                    · refine o_iconst (n := 129) rfl rfl ?_
                      refine o_goto (t := 133) rfl rfl ?_
                      refine o_iadd (n := 134) rfl rfl (by omega) ?_
                      refine o_istore_1 (n := 135) rfl rfl rfl ?_
                      refine o_iload_n (n := 136) rfl rfl rfl ?_
                      refine o_aload_n (n := 137) rfl rfl rfl ?_
                      refine o_iload (n := 139) rfl rfl rfl ?_
                      refine o_invi (n := 142) rfl rfl rfl rfl rfl rfl rfl rfl rfl rfl (c8_isSign _ hs0 hs1) ?_
                      refine o_ifb_eq (n := 145) (t := 153) rfl rfl rfl (fun k142 => ?_) (fun k142 => ?_)
                      · refine o_iconst (n := 154) rfl rfl ?_
                        refine o_iadd (n := 155) rfl rfl (by omega) ?_
                        refine o_istore_2 (n := 156) rfl rfl rfl ?_
                        refine o_iinc_4 (n := 159) rfl rfl rfl (by omega) ?_
                        refine o_goto (t := 9) rfl rfl ?_
                        first
                          | (exfalso; omega; done)
                          | (have hz : ld = 0 ∧ (97 ≤ g 21 0 k ∧ g 21 0 k ≤ 96 + g 8 0 5) ∧ v1 < 6 := by omega
                             obtain ⟨hz, hl, h6⟩ := hz
                             subst hz
                             rw [cif_t rfl, fr_l ⟨hl, h6⟩]
                             have e := ih (k + 1) (v1 + 1) (v2 + 0) 0 (vI (g 21 0 k)) (vI 1) (by omega) (by omega) (by omega) (by omega) (by omega) (by omega) (by omega) (by omega)
                             rw [cif_t rfl] at e
                             exact e)
                          | (have hz : ld = 1 ∧ (97 ≤ g 21 0 k ∧ g 21 0 k ≤ 96 + g 8 0 5) ∧ v2 < 6 := by omega
                             obtain ⟨hz, hl, h6⟩ := hz
                             subst hz
                             rw [cif_f (by decide), fr_l ⟨hl, h6⟩]
                             have e := ih (k + 1) (v1 + 0) (v2 + 1) 1 (vI (g 21 0 k)) (vI 1) (by omega) (by omega) (by omega) (by omega) (by omega) (by omega) (by omega) (by omega)
                             rw [cif_f (by decide)] at e
                             exact e)
                          | (have hz : ld = 0 ∧ ¬ (97 ≤ g 21 0 k ∧ g 21 0 k ≤ 96 + g 8 0 5) ∧ (g 21 0 k = 62 ∨ g 21 0 k = 61) ∧ 0 < v1 ∧ v2 = 0 := by omega
                             obtain ⟨hz, hl, h6, h7, h8⟩ := hz
                             subst hz
                             subst h8
                             rw [cif_t rfl, fr_a (fun z => hl z.1) ⟨h6, rfl, h7⟩]
                             have e := ih (k + 1) (v1 + 0) (0 + 0) 1 (vI (g 21 0 k)) (vI 1) (by omega) (by omega) (by omega) (by omega) (by omega) (by omega) (by omega) (by omega)
                             rw [cif_f (by decide)] at e
                             exact e)
                      · refine o_iload_n (n := 146) rfl rfl rfl ?_
                        refine o_if_eq (n := 149) (t := 153) rfl rfl rfl (fun k146 => ?_) (fun k146 => ?_)
                        · refine o_iconst (n := 154) rfl rfl ?_
                          refine o_iadd (n := 155) rfl rfl (by omega) ?_
                          refine o_istore_2 (n := 156) rfl rfl rfl ?_
                          refine o_iinc_4 (n := 159) rfl rfl rfl (by omega) ?_
                          refine o_goto (t := 9) rfl rfl ?_
                          first
                            | (exfalso; omega; done)
                            | (have hz : ld = 0 ∧ (97 ≤ g 21 0 k ∧ g 21 0 k ≤ 96 + g 8 0 5) ∧ v1 < 6 := by omega
                               obtain ⟨hz, hl, h6⟩ := hz
                               subst hz
                               rw [cif_t rfl, fr_l ⟨hl, h6⟩]
                               have e := ih (k + 1) (v1 + 1) (v2 + 0) 0 (vI (g 21 0 k)) (vI 1) (by omega) (by omega) (by omega) (by omega) (by omega) (by omega) (by omega) (by omega)
                               rw [cif_t rfl] at e
                               exact e)
                            | (have hz : ld = 1 ∧ (97 ≤ g 21 0 k ∧ g 21 0 k ≤ 96 + g 8 0 5) ∧ v2 < 6 := by omega
                               obtain ⟨hz, hl, h6⟩ := hz
                               subst hz
                               rw [cif_f (by decide), fr_l ⟨hl, h6⟩]
                               have e := ih (k + 1) (v1 + 0) (v2 + 1) 1 (vI (g 21 0 k)) (vI 1) (by omega) (by omega) (by omega) (by omega) (by omega) (by omega) (by omega) (by omega)
                               rw [cif_f (by decide)] at e
                               exact e)
                            | (have hz : ld = 0 ∧ ¬ (97 ≤ g 21 0 k ∧ g 21 0 k ≤ 96 + g 8 0 5) ∧ (g 21 0 k = 62 ∨ g 21 0 k = 61) ∧ 0 < v1 ∧ v2 = 0 := by omega
                               obtain ⟨hz, hl, h6, h7, h8⟩ := hz
                               subst hz
                               subst h8
                               rw [cif_t rfl, fr_a (fun z => hl z.1) ⟨h6, rfl, h7⟩]
                               have e := ih (k + 1) (v1 + 0) (0 + 0) 1 (vI (g 21 0 k)) (vI 1) (by omega) (by omega) (by omega) (by omega) (by omega) (by omega) (by omega) (by omega)
                               rw [cif_f (by decide)] at e
                               exact e)
                        · refine o_iconst (n := 150) rfl rfl ?_
                          refine o_goto (t := 154) rfl rfl ?_
                          refine o_iadd (n := 155) rfl rfl (by omega) ?_
                          refine o_istore_2 (n := 156) rfl rfl rfl ?_
                          refine o_iinc_4 (n := 159) rfl rfl rfl (by omega) ?_
                          refine o_goto (t := 9) rfl rfl ?_
                          first
                            | (exfalso; omega; done)
                            | (have hz : ld = 0 ∧ (97 ≤ g 21 0 k ∧ g 21 0 k ≤ 96 + g 8 0 5) ∧ v1 < 6 := by omega
                               obtain ⟨hz, hl, h6⟩ := hz
                               subst hz
                               rw [cif_t rfl, fr_l ⟨hl, h6⟩]
                               have e := ih (k + 1) (v1 + 1) (v2 + 0) 0 (vI (g 21 0 k)) (vI 1) (by omega) (by omega) (by omega) (by omega) (by omega) (by omega) (by omega) (by omega)
                               rw [cif_t rfl] at e
                               exact e)
                            | (have hz : ld = 1 ∧ (97 ≤ g 21 0 k ∧ g 21 0 k ≤ 96 + g 8 0 5) ∧ v2 < 6 := by omega
                               obtain ⟨hz, hl, h6⟩ := hz
                               subst hz
                               rw [cif_f (by decide), fr_l ⟨hl, h6⟩]
                               have e := ih (k + 1) (v1 + 0) (v2 + 1) 1 (vI (g 21 0 k)) (vI 1) (by omega) (by omega) (by omega) (by omega) (by omega) (by omega) (by omega) (by omega)
                               rw [cif_f (by decide)] at e
                               exact e)
                            | (have hz : ld = 0 ∧ ¬ (97 ≤ g 21 0 k ∧ g 21 0 k ≤ 96 + g 8 0 5) ∧ (g 21 0 k = 62 ∨ g 21 0 k = 61) ∧ 0 < v1 ∧ v2 = 0 := by omega
                               obtain ⟨hz, hl, h6, h7, h8⟩ := hz
                               subst hz
                               subst h8
                               rw [cif_t rfl, fr_a (fun z => hl z.1) ⟨h6, rfl, h7⟩]
                               have e := ih (k + 1) (v1 + 0) (0 + 0) 1 (vI (g 21 0 k)) (vI 1) (by omega) (by omega) (by omega) (by omega) (by omega) (by omega) (by omega) (by omega)
                               rw [cif_f (by decide)] at e
                               exact e)
                · refine o_iconst (n := 109) rfl rfl ?_
                  refine o_goto (t := 113) rfl rfl ?_
                  refine o_istore_3 (n := 114) rfl rfl rfl ?_
                  refine o_iload_n (n := 115) rfl rfl rfl ?_
                  refine o_aload_n (n := 116) rfl rfl rfl ?_
                  refine o_iload (n := 118) rfl rfl rfl ?_
                  refine o_invi (n := 121) rfl rfl rfl rfl rfl rfl rfl rfl rfl rfl (c8_isSign _ hs0 hs1) ?_
                  refine o_ifb_eq (n := 124) (t := 132) rfl rfl rfl (fun k121 => ?_) (fun k121 => ?_)
                  · refine o_iconst (n := 133) rfl rfl ?_
                    refine o_iadd (n := 134) rfl rfl (by omega) ?_
                    refine o_istore_1 (n := 135) rfl rfl rfl ?_
                    refine o_iload_n (n := 136) rfl rfl rfl ?_
                    refine o_aload_n (n := 137) rfl rfl rfl ?_
                    refine o_iload (n := 139) rfl rfl rfl ?_
                    refine o_invi (n := 142) rfl rfl rfl rfl rfl rfl rfl rfl rfl rfl (c8_isSign _ hs0 hs1) ?_
                    refine o_ifb_eq (n := 145) (t := 153) rfl rfl rfl (fun k142 => ?_) (fun k142 => ?_)
                    · refine o_iconst (n := 154) rfl rfl ?_
                      refine o_iadd (n := 155) rfl rfl (by omega) ?_
                      refine o_istore_2 (n := 156) rfl rfl rfl ?_
                      refine o_iinc_4 (n := 159) rfl rfl rfl (by omega) ?_
                      refine o_goto (t := 9) rfl rfl ?_
                      first
                        | (exfalso; omega; done)
                        | (have hz : ld = 0 ∧ (97 ≤ g 21 0 k ∧ g 21 0 k ≤ 96 + g 8 0 5) ∧ v1 < 6 := by omega
                           obtain ⟨hz, hl, h6⟩ := hz
                           subst hz
                           rw [cif_t rfl, fr_l ⟨hl, h6⟩]
                           have e := ih (k + 1) (v1 + 1) (v2 + 0) 0 (vI (g 21 0 k)) (vI 1) (by omega) (by omega) (by omega) (by omega) (by omega) (by omega) (by omega) (by omega)
                           rw [cif_t rfl] at e
                           exact e)
                        | (have hz : ld = 1 ∧ (97 ≤ g 21 0 k ∧ g 21 0 k ≤ 96 + g 8 0 5) ∧ v2 < 6 := by omega
                           obtain ⟨hz, hl, h6⟩ := hz
                           subst hz
                           rw [cif_f (by decide), fr_l ⟨hl, h6⟩]
                           have e := ih (k + 1) (v1 + 0) (v2 + 1) 1 (vI (g 21 0 k)) (vI 1) (by omega) (by omega) (by omega) (by omega) (by omega) (by omega) (by omega) (by omega)
                           rw [cif_f (by decide)] at e
                           exact e)
                        | (have hz : ld = 0 ∧ ¬ (97 ≤ g 21 0 k ∧ g 21 0 k ≤ 96 + g 8 0 5) ∧ (g 21 0 k = 62 ∨ g 21 0 k = 61) ∧ 0 < v1 ∧ v2 = 0 := by omega
                           obtain ⟨hz, hl, h6, h7, h8⟩ := hz
                           subst hz
                           subst h8
                           rw [cif_t rfl, fr_a (fun z => hl z.1) ⟨h6, rfl, h7⟩]
                           have e := ih (k + 1) (v1 + 0) (0 + 0) 1 (vI (g 21 0 k)) (vI 1) (by omega) (by omega) (by omega) (by omega) (by omega) (by omega) (by omega) (by omega)
                           rw [cif_f (by decide)] at e
                           exact e)
                    · refine o_iload_n (n := 146) rfl rfl rfl ?_
                      refine o_if_eq (n := 149) (t := 153) rfl rfl rfl (fun k146 => ?_) (fun k146 => ?_)
                      · refine o_iconst (n := 154) rfl rfl ?_
                        refine o_iadd (n := 155) rfl rfl (by omega) ?_
                        refine o_istore_2 (n := 156) rfl rfl rfl ?_
                        refine o_iinc_4 (n := 159) rfl rfl rfl (by omega) ?_
                        refine o_goto (t := 9) rfl rfl ?_
                        first
                          | (exfalso; omega; done)
                          | (have hz : ld = 0 ∧ (97 ≤ g 21 0 k ∧ g 21 0 k ≤ 96 + g 8 0 5) ∧ v1 < 6 := by omega
                             obtain ⟨hz, hl, h6⟩ := hz
                             subst hz
                             rw [cif_t rfl, fr_l ⟨hl, h6⟩]
                             have e := ih (k + 1) (v1 + 1) (v2 + 0) 0 (vI (g 21 0 k)) (vI 1) (by omega) (by omega) (by omega) (by omega) (by omega) (by omega) (by omega) (by omega)
                             rw [cif_t rfl] at e
                             exact e)
                          | (have hz : ld = 1 ∧ (97 ≤ g 21 0 k ∧ g 21 0 k ≤ 96 + g 8 0 5) ∧ v2 < 6 := by omega
                             obtain ⟨hz, hl, h6⟩ := hz
                             subst hz
                             rw [cif_f (by decide), fr_l ⟨hl, h6⟩]
                             have e := ih (k + 1) (v1 + 0) (v2 + 1) 1 (vI (g 21 0 k)) (vI 1) (by omega) (by omega) (by omega) (by omega) (by omega) (by omega) (by omega) (by omega)
                             rw [cif_f (by decide)] at e
                             exact e)
                          | (have hz : ld = 0 ∧ ¬ (97 ≤ g 21 0 k ∧ g 21 0 k ≤ 96 + g 8 0 5) ∧ (g 21 0 k = 62 ∨ g 21 0 k = 61) ∧ 0 < v1 ∧ v2 = 0 := by omega
                             obtain ⟨hz, hl, h6, h7, h8⟩ := hz
                             subst hz
                             subst h8
                             rw [cif_t rfl, fr_a (fun z => hl z.1) ⟨h6, rfl, h7⟩]
                             have e := ih (k + 1) (v1 + 0) (0 + 0) 1 (vI (g 21 0 k)) (vI 1) (by omega) (by omega) (by omega) (by omega) (by omega) (by omega) (by omega) (by omega)
                             rw [cif_f (by decide)] at e
                             exact e)
                      · refine o_iconst (n := 150) rfl rfl ?_
                        refine o_goto (t := 154) rfl rfl ?_
                        refine o_iadd (n := 155) rfl rfl (by omega) ?_
                        refine o_istore_2 (n := 156) rfl rfl rfl ?_
                        refine o_iinc_4 (n := 159) rfl rfl rfl (by omega) ?_
                        refine o_goto (t := 9) rfl rfl ?_
                        first
                          | (exfalso; omega; done)
                          | (have hz : ld = 0 ∧ (97 ≤ g 21 0 k ∧ g 21 0 k ≤ 96 + g 8 0 5) ∧ v1 < 6 := by omega
                             obtain ⟨hz, hl, h6⟩ := hz
                             subst hz
                             rw [cif_t rfl, fr_l ⟨hl, h6⟩]
                             have e := ih (k + 1) (v1 + 1) (v2 + 0) 0 (vI (g 21 0 k)) (vI 1) (by omega) (by omega) (by omega) (by omega) (by omega) (by omega) (by omega) (by omega)
                             rw [cif_t rfl] at e
                             exact e)
                          | (have hz : ld = 1 ∧ (97 ≤ g 21 0 k ∧ g 21 0 k ≤ 96 + g 8 0 5) ∧ v2 < 6 := by omega
                             obtain ⟨hz, hl, h6⟩ := hz
                             subst hz
                             rw [cif_f (by decide), fr_l ⟨hl, h6⟩]
                             have e := ih (k + 1) (v1 + 0) (v2 + 1) 1 (vI (g 21 0 k)) (vI 1) (by omega) (by omega) (by omega) (by omega) (by omega) (by omega) (by omega) (by omega)
                             rw [cif_f (by decide)] at e
                             exact e)
                          | (have hz : ld = 0 ∧ ¬ (97 ≤ g 21 0 k ∧ g 21 0 k ≤ 96 + g 8 0 5) ∧ (g 21 0 k = 62 ∨ g 21 0 k = 61) ∧ 0 < v1 ∧ v2 = 0 := by omega
                             obtain ⟨hz, hl, h6, h7, h8⟩ := hz
                             subst hz
                             subst h8
                             rw [cif_t rfl, fr_a (fun z => hl z.1) ⟨h6, rfl, h7⟩]
                             have e := ih (k + 1) (v1 + 0) (0 + 0) 1 (vI (g 21 0 k)) (vI 1) (by omega) (by omega) (by omega) (by omega) (by omega) (by omega) (by omega) (by omega)
                             rw [cif_f (by decide)] at e
                             exact e)
                  · refine o_iload_n (n := 125) rfl rfl rfl ?_
                    refine o_if_ne (n := 128) (t := 132) rfl rfl rfl (fun k125 => ?_) (fun k125 => ?_)
                    · refine o_iconst (n := 133) rfl rfl ?_
                      refine o_iadd (n := 134) rfl rfl (by omega) ?_
                      refine o_istore_1 (n := 135) rfl rfl rfl ?_
                      refine o_iload_n (n := 136) rfl rfl rfl ?_
                      refine o_aload_n (n := 137) rfl rfl rfl ?_
                      refine o_iload (n := 139) rfl rfl rfl ?_
                      refine o_invi (n := 142) rfl rfl rfl rfl rfl rfl rfl rfl rfl rfl (c8_isSign _ hs0 hs1) ?_
                      refine o_ifb_eq (n := 145) (t := 153) rfl rfl rfl (fun k142 => ?_) (fun k142 => ?_)
                      · refine o_iconst (n := 154) rfl rfl ?_
                        refine o_iadd (n := 155) rfl rfl (by omega) ?_
                        refine o_istore_2 (n := 156) rfl rfl rfl ?_
                        refine o_iinc_4 (n := 159) rfl rfl rfl (by omega) ?_
                        refine o_goto (t := 9) rfl rfl ?_
                        first
                          | (exfalso; omega; done)
                          | (have hz : ld = 0 ∧ (97 ≤ g 21 0 k ∧ g 21 0 k ≤ 96 + g 8 0 5) ∧ v1 < 6 := by omega
                             obtain ⟨hz, hl, h6⟩ := hz
                             subst hz
                             rw [cif_t rfl, fr_l ⟨hl, h6⟩]
                             have e := ih (k + 1) (v1 + 1) (v2 + 0) 0 (vI (g 21 0 k)) (vI 1) (by omega) (by omega) (by omega) (by omega) (by omega) (by omega) (by omega) (by omega)
                             rw [cif_t rfl] at e
                             exact e)
                          | (have hz : ld = 1 ∧ (97 ≤ g 21 0 k ∧ g 21 0 k ≤ 96 + g 8 0 5) ∧ v2 < 6 := by omega
                             obtain ⟨hz, hl, h6⟩ := hz
                             subst hz
                             rw [cif_f (by decide), fr_l ⟨hl, h6⟩]
                             have e := ih (k + 1) (v1 + 0) (v2 + 1) 1 (vI (g 21 0 k)) (vI 1) (by omega) (by omega) (by omega) (by omega) (by omega) (by omega) (by omega) (by omega)
                             rw [cif_f (by decide)] at e
                             exact e)
                          | (have hz : ld = 0 ∧ ¬ (97 ≤ g 21 0 k ∧ g 21 0 k ≤ 96 + g 8 0 5) ∧ (g 21 0 k = 62 ∨ g 21 0 k = 61) ∧ 0 < v1 ∧ v2 = 0 := by omega
                             obtain ⟨hz, hl, h6, h7, h8⟩ := hz
                             subst hz
                             subst h8
                             rw [cif_t rfl, fr_a (fun z => hl z.1) ⟨h6, rfl, h7⟩]
                             have e := ih (k + 1) (v1 + 0) (0 + 0) 1 (vI (g 21 0 k)) (vI 1) (by omega) (by omega) (by omega) (by omega) (by omega) (by omega) (by omega) (by omega)
                             rw [cif_f (by decide)] at e
                             exact e)
                      · refine o_iload_n (n := 146) rfl rfl rfl ?_
                        refine o_if_eq (n := 149) (t := 153) rfl rfl rfl (fun k146 => ?_) (fun k146 => ?_)
                        · refine o_iconst (n := 154) rfl rfl ?_
                          refine o_iadd (n := 155) rfl rfl (by omega) ?_
                          refine o_istore_2 (n := 156) rfl rfl rfl ?_
                          refine o_iinc_4 (n := 159) rfl rfl rfl (by omega) ?_
                          refine o_goto (t := 9) rfl rfl ?_
                          first
                            | (exfalso; omega; done)
                            | (have hz : ld = 0 ∧ (97 ≤ g 21 0 k ∧ g 21 0 k ≤ 96 + g 8 0 5) ∧ v1 < 6 := by omega
                               obtain ⟨hz, hl, h6⟩ := hz
                               subst hz
                               rw [cif_t rfl, fr_l ⟨hl, h6⟩]
                               have e := ih (k + 1) (v1 + 1) (v2 + 0) 0 (vI (g 21 0 k)) (vI 1) (by omega) (by omega) (by omega) (by omega) (by omega) (by omega) (by omega) (by omega)
                               rw [cif_t rfl] at e
                               exact e)
                            | (have hz : ld = 1 ∧ (97 ≤ g 21 0 k ∧ g 21 0 k ≤ 96 + g 8 0 5) ∧ v2 < 6 := by omega
                               obtain ⟨hz, hl, h6⟩ := hz
                               subst hz
                               rw [cif_f (by decide), fr_l ⟨hl, h6⟩]
                               have e := ih (k + 1) (v1 + 0) (v2 + 1) 1 (vI (g 21 0 k)) (vI 1) (by omega) (by omega) (by omega) (by omega) (by omega) (by omega) (by omega) (by omega)
                               rw [cif_f (by decide)] at e
                               exact e)
                            | (have hz : ld = 0 ∧ ¬ (97 ≤ g 21 0 k ∧ g 21 0 k ≤ 96 + g 8 0 5) ∧ (g 21 0 k = 62 ∨ g 21 0 k = 61) ∧ 0 < v1 ∧ v2 = 0 := by omega
                               obtain ⟨hz, hl, h6, h7, h8⟩ := hz
                               subst hz
                               subst h8
                               rw [cif_t rfl, fr_a (fun z => hl z.1) ⟨h6, rfl, h7⟩]
                               have e := ih (k + 1) (v1 + 0) (0 + 0) 1 (vI (g 21 0 k)) (vI 1) (by omega) (by omega) (by omega) (by omega) (by omega) (by omega) (by omega) (by omega)
                               rw [cif_f (by decide)] at e
                               exact e)
                        · refine o_iconst (n := 150) rfl rfl ?_
                          refine o_goto (t := 154) rfl rfl ?_
                          refine o_iadd (n := 155) rfl rfl (by omega) ?_
                          refine o_istore_2 (n := 156) rfl rfl rfl ?_
                          refine o_iinc_4 (n := 159) rfl rfl rfl (by omega) ?_
                          refine o_goto (t := 9) rfl rfl ?_
                          first
                            | (exfalso; omega; done)
                            | (have hz : ld = 0 ∧ (97 ≤ g 21 0 k ∧ g 21 0 k ≤ 96 + g 8 0 5) ∧ v1 < 6 := by omega
                               obtain ⟨hz, hl, h6⟩ := hz
                               subst hz
                               rw [cif_t rfl, fr_l ⟨hl, h6⟩]
                               have e := ih (k + 1) (v1 + 1) (v2 + 0) 0 (vI (g 21 0 k)) (vI 1) (by omega) (by omega) (by omega) (by omega) (by omega) (by omega) (by omega) (by omega)
                               rw [cif_t rfl] at e
                               exact e)
                            | (have hz : ld = 1 ∧ (97 ≤ g 21 0 k ∧ g 21 0 k ≤ 96 + g 8 0 5) ∧ v2 < 6 := by omega
                               obtain ⟨hz, hl, h6⟩ := hz
                               subst hz
                               rw [cif_f (by decide), fr_l ⟨hl, h6⟩]
                               have e := ih (k + 1) (v1 + 0) (v2 + 1) 1 (vI (g 21 0 k)) (vI 1) (by omega) (by omega) (by omega) (by omega) (by omega) (by omega) (by omega) (by omega)
                               rw [cif_f (by decide)] at e
                               exact e)
                            | (have hz : ld = 0 ∧ ¬ (97 ≤ g 21 0 k ∧ g 21 0 k ≤ 96 + g 8 0 5) ∧ (g 21 0 k = 62 ∨ g 21 0 k = 61) ∧ 0 < v1 ∧ v2 = 0 := by omega
                               obtain ⟨hz, hl, h6, h7, h8⟩ := hz
                               subst hz
                               subst h8
                               rw [cif_t rfl, fr_a (fun z => hl z.1) ⟨h6, rfl, h7⟩]
                               have e := ih (k + 1) (v1 + 0) (0 + 0) 1 (vI (g 21 0 k)) (vI 1) (by omega) (by omega) (by omega) (by omega) (by omega) (by omega) (by omega) (by omega)
                               rw [cif_f (by decide)] at e
                               exact e)
                    · refine o_iconst (n := 129) rfl rfl ?_
                      refine o_goto (t := 133) rfl rfl ?_
                      refine o_iadd (n := 134) rfl rfl (by omega) ?_
                      refine o_istore_1 (n := 135) rfl rfl rfl ?_
                      refine o_iload_n (n := 136) rfl rfl rfl ?_
                      refine o_aload_n (n := 137) rfl rfl rfl ?_
                      refine o_iload (n := 139) rfl rfl rfl ?_
                      refine o_invi (n := 142) rfl rfl rfl rfl rfl rfl rfl rfl rfl rfl (c8_isSign _ hs0 hs1) ?_
                      refine o_ifb_eq (n := 145) (t := 153) rfl rfl rfl (fun k142 => ?_) (fun k142 => ?_)
                      · refine o_iconst (n := 154) rfl rfl ?_
                        refine o_iadd (n := 155) rfl rfl (by omega) ?_
                        refine o_istore_2 (n := 156) rfl rfl rfl ?_
                        refine o_iinc_4 (n := 159) rfl rfl rfl (by omega) ?_
                        refine o_goto (t := 9) rfl rfl ?_
                        first
                          | (exfalso; omega; done)
                          | (have hz : ld = 0 ∧ (97 ≤ g 21 0 k ∧ g 21 0 k ≤ 96 + g 8 0 5) ∧ v1 < 6 := by omega
                             obtain ⟨hz, hl, h6⟩ := hz
                             subst hz
                             rw [cif_t rfl, fr_l ⟨hl, h6⟩]
                             have e := ih (k + 1) (v1 + 1) (v2 + 0) 0 (vI (g 21 0 k)) (vI 1) (by omega) (by omega) (by omega) (by omega) (by omega) (by omega) (by omega) (by omega)
                             rw [cif_t rfl] at e
                             exact e)
                          | (have hz : ld = 1 ∧ (97 ≤ g 21 0 k ∧ g 21 0 k ≤ 96 + g 8 0 5) ∧ v2 < 6 := by omega
                             obtain ⟨hz, hl, h6⟩ := hz
                             subst hz
                             rw [cif_f (by decide), fr_l ⟨hl, h6⟩]
                             have e := ih (k + 1) (v1 + 0) (v2 + 1) 1 (vI (g 21 0 k)) (vI 1) (by omega) (by omega) (by omega) (by omega) (by omega) (by omega) (by omega) (by omega)
                             rw [cif_f (by decide)] at e
                             exact e)
                          | (have hz : ld = 0 ∧ ¬ (97 ≤ g 21 0 k ∧ g 21 0 k ≤ 96 + g 8 0 5) ∧ (g 21 0 k = 62 ∨ g 21 0 k = 61) ∧ 0 < v1 ∧ v2 = 0 := by omega
                             obtain ⟨hz, hl, h6, h7, h8⟩ := hz
                             subst hz
                             subst h8
                             rw [cif_t rfl, fr_a (fun z => hl z.1) ⟨h6, rfl, h7⟩]
                             have e := ih (k + 1) (v1 + 0) (0 + 0) 1 (vI (g 21 0 k)) (vI 1) (by omega) (by omega) (by omega) (by omega) (by omega) (by omega) (by omega) (by omega)
                             rw [cif_f (by decide)] at e
                             exact e)
                      · refine o_iload_n (n := 146) rfl rfl rfl ?_
                        refine o_if_eq (n := 149) (t := 153) rfl rfl rfl (fun k146 => ?_) (fun k146 => ?_)
                        · refine o_iconst (n := 154) rfl rfl ?_
                          refine o_iadd (n := 155) rfl rfl (by omega) ?_
                          refine o_istore_2 (n := 156) rfl rfl rfl ?_
                          refine o_iinc_4 (n := 159) rfl rfl rfl (by omega) ?_
                          refine o_goto (t := 9) rfl rfl ?_
                          first
                            | (exfalso; omega; done)
                            | (have hz : ld = 0 ∧ (97 ≤ g 21 0 k ∧ g 21 0 k ≤ 96 + g 8 0 5) ∧ v1 < 6 := by omega
                               obtain ⟨hz, hl, h6⟩ := hz
                               subst hz
                               rw [cif_t rfl, fr_l ⟨hl, h6⟩]
                               have e := ih (k + 1) (v1 + 1) (v2 + 0) 0 (vI (g 21 0 k)) (vI 1) (by omega) (by omega) (by omega) (by omega) (by omega) (by omega) (by omega) (by omega)
                               rw [cif_t rfl] at e
                               exact e)
                            | (have hz : ld = 1 ∧ (97 ≤ g 21 0 k ∧ g 21 0 k ≤ 96 + g 8 0 5) ∧ v2 < 6 := by omega
                               obtain ⟨hz, hl, h6⟩ := hz
                               subst hz
                               rw [cif_f (by decide), fr_l ⟨hl, h6⟩]
                               have e := ih (k + 1) (v1 + 0) (v2 + 1) 1 (vI (g 21 0 k)) (vI 1) (by omega) (by omega) (by omega) (by omega) (by omega) (by omega) (by omega) (by omega)
                               rw [cif_f (by decide)] at e
                               exact e)
                            | (have hz : ld = 0 ∧ ¬ (97 ≤ g 21 0 k ∧ g 21 0 k ≤ 96 + g 8 0 5) ∧ (g 21 0 k = 62 ∨ g 21 0 k = 61) ∧ 0 < v1 ∧ v2 = 0 := by omega
                               obtain ⟨hz, hl, h6, h7, h8⟩ := hz
                               subst hz
                               subst h8
                               rw [cif_t rfl, fr_a (fun z => hl z.1) ⟨h6, rfl, h7⟩]
                               have e := ih (k + 1) (v1 + 0) (0 + 0) 1 (vI (g 21 0 k)) (vI 1) (by omega) (by omega) (by omega) (by omega) (by omega) (by omega) (by omega) (by omega)
                               rw [cif_f (by decide)] at e
                               exact e)
                        · refine o_iconst (n := 150) rfl rfl ?_
                          refine o_goto (t := 154) rfl rfl ?_
                          refine o_iadd (n := 155) rfl rfl (by omega) ?_
                          refine o_istore_2 (n := 156) rfl rfl rfl ?_
                          refine o_iinc_4 (n := 159) rfl rfl rfl (by omega) ?_
                          refine o_goto (t := 9) rfl rfl ?_
                          first
                            | (exfalso; omega; done)
                            | (have hz : ld = 0 ∧ (97 ≤ g 21 0 k ∧ g 21 0 k ≤ 96 + g 8 0 5) ∧ v1 < 6 := by omega
                               obtain ⟨hz, hl, h6⟩ := hz
                               subst hz
                               rw [cif_t rfl, fr_l ⟨hl, h6⟩]
                               have e := ih (k + 1) (v1 + 1) (v2 + 0) 0 (vI (g 21 0 k)) (vI 1) (by omega) (by omega) (by omega) (by omega) (by omega) (by omega) (by omega) (by omega)
                               rw [cif_t rfl] at e
                               exact e)
                            | (have hz : ld = 1 ∧ (97 ≤ g 21 0 k ∧ g 21 0 k ≤ 96 + g 8 0 5) ∧ v2 < 6 := by omega
                               obtain ⟨hz, hl, h6⟩ := hz
                               subst hz
                               rw [cif_f (by decide), fr_l ⟨hl, h6⟩]
                               have e := ih (k + 1) (v1 + 0) (v2 + 1) 1 (vI (g 21 0 k)) (vI 1) (by omega) (by omega) (by omega) (by omega) (by omega) (by omega) (by omega) (by omega)
                               rw [cif_f (by decide)] at e
                               exact e)
                            | (have hz : ld = 0 ∧ ¬ (97 ≤ g 21 0 k ∧ g 21 0 k ≤ 96 + g 8 0 5) ∧ (g 21 0 k = 62 ∨ g 21 0 k = 61) ∧ 0 < v1 ∧ v2 = 0 := by omega
                               obtain ⟨hz, hl, h6, h7, h8⟩ := hz
                               subst hz
                               subst h8
                               rw [cif_t rfl, fr_a (fun z => hl z.1) ⟨h6, rfl, h7⟩]
                               have e := ih (k + 1) (v1 + 0) (0 + 0) 1 (vI (g 21 0 k)) (vI 1) (by omega) (by omega) (by omega) (by omega) (by omega) (by omega) (by omega) (by omega)
                               rw [cif_f (by decide)] at e
                               exact e)
            · refine o_iload (n := 94) rfl rfl rfl ?_
              refine o_iret rfl rfl ?_
              first
                | (exfalso; omega; done)
                | (refine ⟨congrArg (fun z => some (vI z)) ?_, rfl, rfl⟩
                   by_cases hz : ld = 0
                   · rw [cif_t hz, fr_x (by omega) (by omega)]
                   · rw [cif_f hz, fr_x (by omega) (by omega)])
          · refine o_iload (n := 75) rfl rfl rfl ?_
            refine o_bipush (n := 77) rfl rfl ?_
            refine o_icmp_ne (n := 80) (t := 84) rfl rfl rfl (fun k77 => ?_) (fun k77 => ?_)
            · refine o_iconst (n := 85) rfl rfl ?_
              refine o_istore_6 (n := 87) rfl rfl rfl ?_
              refine o_iload (n := 89) rfl rfl rfl ?_
              refine o_if_ne (n := 92) (t := 95) rfl rfl rfl (fun k89 => ?_) (fun k89 => ?_)
              · refine o_iload_n (n := 96) rfl rfl rfl ?_
                refine o_if_ne (n := 99) (t := 108) rfl rfl rfl (fun k96 => ?_) (fun k96 => ?_)
                · refine o_iconst (n := 109) rfl rfl ?_
                  refine o_goto (t := 113) rfl rfl ?_
                  refine o_istore_3 (n := 114) rfl rfl rfl ?_
                  refine o_iload_n (n := 115) rfl rfl rfl ?_
                  refine o_aload_n (n := 116) rfl rfl rfl ?_
                  refine o_iload (n := 118) rfl rfl rfl ?_
                  refine o_invi (n := 121) rfl rfl rfl rfl rfl rfl rfl rfl rfl rfl (c8_isSign _ hs0 hs1) ?_
                  refine o_ifb_eq (n := 124) (t := 132) rfl rfl rfl (fun k121 => ?_) (fun k121 => ?_)
                  · refine o_iconst (n := 133) rfl rfl ?_
                    refine o_iadd (n := 134) rfl rfl (by omega) ?_
                    refine o_istore_1 (n := 135) rfl rfl rfl ?_
                    refine o_iload_n (n := 136) rfl rfl rfl ?_
                    refine o_aload_n (n := 137) rfl rfl rfl ?_
                    refine o_iload (n := 139) rfl rfl rfl ?_
                    refine o_invi (n := 142) rfl rfl rfl rfl rfl rfl rfl rfl rfl rfl (c8_isSign _ hs0 hs1) ?_
                    refine o_ifb_eq (n := 145) (t := 153) rfl rfl rfl (fun k142 => ?_) (fun k142 => ?_)
                    · refine o_iconst (n := 154) rfl rfl ?_
                      refine o_iadd (n := 155) rfl rfl (by omega) ?_
                      refine o_istore_2 (n := 156) rfl rfl rfl ?_
                      refine o_iinc_4 (n := 159) rfl rfl rfl (by omega) ?_
                      refine o_goto (t := 9) rfl rfl ?_
                      first
                        | (exfalso; omega; done)
                        | (have hz : ld = 0 ∧ (97 ≤ g 21 0 k ∧ g 21 0 k ≤ 96 + g 8 0 5) ∧ v1 < 6 := by omega
                           obtain ⟨hz, hl, h6⟩ := hz
                           subst hz
                           rw [cif_t rfl, fr_l ⟨hl, h6⟩]
                           have e := ih (k + 1) (v1 + 1) (v2 + 0) 0 (vI (g 21 0 k)) (vI 1) (by omega) (by omega) (by omega) (by omega) (by omega) (by omega) (by omega) (by omega)
                           rw [cif_t rfl] at e
                           exact e)
                        | (have hz : ld = 1 ∧ (97 ≤ g 21 0 k ∧ g 21 0 k ≤ 96 + g 8 0 5) ∧ v2 < 6 := by omega
                           obtain ⟨hz, hl, h6⟩ := hz
                           subst hz
                           rw [cif_f (by decide), fr_l ⟨hl, h6⟩]
                           have e := ih (k + 1) (v1 + 0) (v2 + 1) 1 (vI (g 21 0 k)) (vI 1) (by omega) (by omega) (by omega) (by omega) (by omega) (by omega) (by omega) (by omega)
                           rw [cif_f (by decide)] at e
                           exact e)
                        | (have hz : ld = 0 ∧ ¬ (97 ≤ g 21 0 k ∧ g 21 0 k ≤ 96 + g 8 0 5) ∧ (g 21 0 k = 62 ∨ g 21 0 k = 61) ∧ 0 < v1 ∧ v2 = 0 := by omega
                           obtain ⟨hz, hl, h6, h7, h8⟩ := hz
                           subst hz
                           subst h8
                           rw [cif_t rfl, fr_a (fun z => hl z.1) ⟨h6, rfl, h7⟩]
                           have e := ih (k + 1) (v1 + 0) (0 + 0) 1 (vI (g 21 0 k)) (vI 1) (by omega) (by omega) (by omega) (by omega) (by omega) (by omega) (by omega) (by omega)
                           rw [cif_f (by decide)] at e
                           exact e)
                    · refine o_iload_n (n := 146) rfl rfl rfl ?_
                      refine o_if_eq (n := 149) (t := 153) rfl rfl rfl (fun k146 => ?_) (fun k146 => ?_)
                      · refine o_iconst (n := 154) rfl rfl ?_
                        refine o_iadd (n := 155) rfl rfl (by omega) ?_
                        refine o_istore_2 (n := 156) rfl rfl rfl ?_
                        refine o_iinc_4 (n := 159) rfl rfl rfl (by omega) ?_
                        refine o_goto (t := 9) rfl rfl ?_
                        first
                          | (exfalso; omega; done)
                          | (have hz : ld = 0 ∧ (97 ≤ g 21 0 k ∧ g 21 0 k ≤ 96 + g 8 0 5) ∧ v1 < 6 := by omega
                             obtain ⟨hz, hl, h6⟩ := hz
                             subst hz
                             rw [cif_t rfl, fr_l ⟨hl, h6⟩]
                             have e := ih (k + 1) (v1 + 1) (v2 + 0) 0 (vI (g 21 0 k)) (vI 1) (by omega) (by omega) (by omega) (by omega) (by omega) (by omega) (by omega) (by omega)
                             rw [cif_t rfl] at e
                             exact e)
                          | (have hz : ld = 1 ∧ (97 ≤ g 21 0 k ∧ g 21 0 k ≤ 96 + g 8 0 5) ∧ v2 < 6 := by omega
                             obtain ⟨hz, hl, h6⟩ := hz
                             subst hz
                             rw [cif_f (by decide), fr_l ⟨hl, h6⟩]
                             have e := ih (k + 1) (v1 + 0) (v2 + 1) 1 (vI (g 21 0 k)) (vI 1) (by omega) (by omega) (by omega) (by omega) (by omega) (by omega) (by omega) (by omega)
                             rw [cif_f (by decide)] at e
                             exact e)
                          | (have hz : ld = 0 ∧ ¬ (97 ≤ g 21 0 k ∧ g 21 0 k ≤ 96 + g 8 0 5) ∧ (g 21 0 k = 62 ∨ g 21 0 k = 61) ∧ 0 < v1 ∧ v2 = 0 := by omega
                             obtain ⟨hz, hl, h6, h7, h8⟩ := hz
                             subst hz
                             subst h8
                             rw [cif_t rfl, fr_a (fun z => hl z.1) ⟨h6, rfl, h7⟩]
                             have e := ih (k + 1) (v1 + 0) (0 + 0) 1 (vI (g 21 0 k)) (vI 1) (by omega) (by omega) (by omega) (by omega) (by omega) (by omega) (by omega) (by omega)
                             rw [cif_f (by decide)] at e
                             exact e)
                      · refine o_iconst (n := 150) rfl rfl ?_
                        refine o_goto (t := 154) rfl rfl ?_
                        refine o_iadd (n := 155) rfl rfl (by omega) ?_
                        refine o_istore_2 (n := 156) rfl rfl rfl ?_
                        refine o_iinc_4 (n := 159) rfl rfl rfl (by omega) ?_
                        refine o_goto (t := 9) rfl rfl ?_
                        first
                          | (exfalso; omega; done)
                          | (have hz : ld = 0 ∧ (97 ≤ g 21 0 k ∧ g 21 0 k ≤ 96 + g 8 0 5) ∧ v1 < 6 := by omega
                             obtain ⟨hz, hl, h6⟩ := hz
                             subst hz
                             rw [cif_t rfl, fr_l ⟨hl, h6⟩]
                             have e := ih (k + 1) (v1 + 1) (v2 + 0) 0 (vI (g 21 0 k)) (vI 1) (by omega) (by omega) (by omega) (by omega) (by omega) (by omega) (by omega) (by omega)
                             rw [cif_t rfl] at e
                             exact e)
                          | (have hz : ld = 1 ∧ (97 ≤ g 21 0 k ∧ g 21 0 k ≤ 96 + g 8 0 5) ∧ v2 < 6 := by omega
                             obtain ⟨hz, hl, h6⟩ := hz
                             subst hz
                             rw [cif_f (by decide), fr_l ⟨hl, h6⟩]
                             have e := ih (k + 1) (v1 + 0) (v2 + 1) 1 (vI (g 21 0 k)) (vI 1) (by omega) (by omega) (by omega) (by omega) (by omega) (by omega) (by omega) (by omega)
                             rw [cif_f (by decide)] at e
                             exact e)
                          | (have hz : ld = 0 ∧ ¬ (97 ≤ g 21 0 k ∧ g 21 0 k ≤ 96 + g 8 0 5) ∧ (g 21 0 k = 62 ∨ g 21 0 k = 61) ∧ 0 < v1 ∧ v2 = 0 := by omega
                             obtain ⟨hz, hl, h6, h7, h8⟩ := hz
                             subst hz
                             subst h8
                             rw [cif_t rfl, fr_a (fun z => hl z.1) ⟨h6, rfl, h7⟩]
                             have e := ih (k + 1) (v1 + 0) (0 + 0) 1 (vI (g 21 0 k)) (vI 1) (by omega) (by omega) (by omega) (by omega) (by omega) (by omega) (by omega) (by omega)
                             rw [cif_f (by decide)] at e
                             exact e)
                  · refine o_iload_n (n := 125) rfl rfl rfl ?_
                    refine o_if_ne (n := 128) (t := 132) rfl rfl rfl (fun k125 => ?_) (fun k125 => ?_)
                    · refine o_iconst (n := 133) rfl rfl ?_
                      refine o_iadd (n := 134) rfl rfl (by omega) ?_
                      refine o_istore_1 (n := 135) rfl rfl rfl ?_
                      refine o_iload_n (n := 136) rfl rfl rfl ?_
                      refine o_aload_n (n := 137) rfl rfl rfl ?_
                      refine o_iload (n := 139) rfl rfl rfl ?_
                      refine o_invi (n := 142) rfl rfl rfl rfl rfl rfl rfl rfl rfl rfl (c8_isSign _ hs0 hs1) ?_
                      refine o_ifb_eq (n := 145) (t := 153) rfl rfl rfl (fun k142 => ?_) (fun k142 => ?_)
                      · refine o_iconst (n := 154) rfl rfl ?_
                        refine o_iadd (n := 155) rfl rfl (by omega) ?_
                        refine o_istore_2 (n := 156) rfl rfl rfl ?_
                        refine o_iinc_4 (n := 159) rfl rfl rfl (by omega) ?_
                        refine o_goto (t := 9) rfl rfl ?_
                        first
                          | (exfalso; omega; done)
                          | (have hz : ld = 0 ∧ (97 ≤ g 21 0 k ∧ g 21 0 k ≤ 96 + g 8 0 5) ∧ v1 < 6 := by omega
                             obtain ⟨hz, hl, h6⟩ := hz
                             subst hz
                             rw [cif_t rfl, fr_l ⟨hl, h6⟩]
                             have e := ih (k + 1) (v1 + 1) (v2 + 0) 0 (vI (g 21 0 k)) (vI 1) (by omega) (by omega) (by omega) (by omega) (by omega) (by omega) (by omega) (by omega)
                             rw [cif_t rfl] at e
                             exact e)
                          | (have hz : ld = 1 ∧ (97 ≤ g 21 0 k ∧ g 21 0 k ≤ 96 + g 8 0 5) ∧ v2 < 6 := by omega
                             obtain ⟨hz, hl, h6⟩ := hz
                             subst hz
                             rw [cif_f (by decide), fr_l ⟨hl, h6⟩]
                             have e := ih (k + 1) (v1 + 0) (v2 + 1) 1 (vI (g 21 0 k)) (vI 1) (by omega) (by omega) (by omega) (by omega) (by omega) (by omega) (by omega) (by omega)
                             rw [cif_f (by decide)] at e
                             exact e)
                          | (have hz : ld = 0 ∧ ¬ (97 ≤ g 21 0 k ∧ g 21 0 k ≤ 96 + g 8 0 5) ∧ (g 21 0 k = 62 ∨ g 21 0 k = 61) ∧ 0 < v1 ∧ v2 = 0 := by omega
                             obtain ⟨hz, hl, h6, h7, h8⟩ := hz
                             subst hz
                             subst h8
                             rw [cif_t rfl, fr_a (fun z => hl z.1) ⟨h6, rfl, h7⟩]
                             have e := ih (k + 1) (v1 + 0) (0 + 0) 1 (vI (g 21 0 k)) (vI 1) (by omega) (by omega) (by omega) (by omega) (by omega) (by omega) (by omega) (by omega)
                             rw [cif_f (by decide)] at e
                             exact e)
                      · refine o_iload_n (n := 146) rfl rfl rfl ?_
                        refine o_if_eq (n := 149) (t := 153) rfl rfl rfl (fun k146 => ?_) (fun k146 => ?_)
                        · refine o_iconst (n := 154) rfl rfl ?_
                          refine o_iadd (n := 155) rfl rfl (by omega) ?_
                          refine o_istore_2 (n := 156) rfl rfl rfl ?_
                          refine o_iinc_4 (n := 159) rfl rfl rfl (by omega) ?_
                          refine o_goto (t := 9) rfl rfl ?_
                          first
                            | (exfalso; omega; done)
                            | (have hz : ld = 0 ∧ (97 ≤ g 21 0 k ∧ g 21 0 k ≤ 96 + g 8 0 5) ∧ v1 < 6 := by omega
                               obtain ⟨hz, hl, h6⟩ := hz
                               subst hz
                               rw [cif_t rfl, fr_l ⟨hl, h6⟩]
                               have e := ih (k + 1) (v1 + 1) (v2 + 0) 0 (vI (g 21 0 k)) (vI 1) (by omega) (by omega) (by omega) (by omega) (by omega) (by omega) (by omega) (by omega)
                               rw [cif_t rfl] at e
                               exact e)
                            | (have hz : ld = 1 ∧ (97 ≤ g 21 0 k ∧ g 21 0 k ≤ 96 + g 8 0 5) ∧ v2 < 6 := by omega
                               obtain ⟨hz, hl, h6⟩ := hz
                               subst hz
                               rw [cif_f (by decide), fr_l ⟨hl, h6⟩]
                               have e := ih (k + 1) (v1 + 0) (v2 + 1) 1 (vI (g 21 0 k)) (vI 1) (by omega) (by omega) (by omega) (by omega) (by omega) (by omega) (by omega) (by omega)
                               rw [cif_f (by decide)] at e
                               exact e)
                            | (have hz : ld = 0 ∧ ¬ (97 ≤ g 21 0 k ∧ g 21 0 k ≤ 96 + g 8 0 5) ∧ (g 21 0 k = 62 ∨ g 21 0 k = 61) ∧ 0 < v1 ∧ v2 = 0 := by omega
                               obtain ⟨hz, hl, h6, h7, h8⟩ := hz
                               subst hz
                               subst h8
                               rw [cif_t rfl, fr_a (fun z => hl z.1) ⟨h6, rfl, h7⟩]
                               have e := ih (k + 1) (v1 + 0) (0 + 0) 1 (vI (g 21 0 k)) (vI 1) (by omega) (by omega) (by omega) (by omega) (by omega) (by omega) (by omega) (by omega)
                               rw [cif_f (by decide)] at e
                               exact e)
                        · refine o_iconst (n := 150) rfl rfl ?_
                          refine o_goto (t := 154) rfl rfl ?_
                          refine o_iadd (n := 155) rfl rfl (by omega) ?_
                          refine o_istore_2 (n := 156) rfl rfl rfl ?_
                          refine o_iinc_4 (n := 159) rfl rfl rfl (by omega) ?_
                          refine o_goto (t := 9) rfl rfl ?_
                          first
                            | (exfalso; omega; done)
                            | (have hz : ld = 0 ∧ (97 ≤ g 21 0 k ∧ g 21 0 k ≤ 96 + g 8 0 5) ∧ v1 < 6 := by omega
                               obtain ⟨hz, hl, h6⟩ := hz
                               subst hz
                               rw [cif_t rfl, fr_l ⟨hl, h6⟩]
                               have e := ih (k + 1) (v1 + 1) (v2 + 0) 0 (vI (g 21 0 k)) (vI 1) (by omega) (by omega) (by omega) (by omega) (by omega) (by omega) (by omega) (by omega)
                               rw [cif_t rfl] at e
                               exact e)
                            | (have hz : ld = 1 ∧ (97 ≤ g 21 0 k ∧ g 21 0 k ≤ 96 + g 8 0 5) ∧ v2 < 6 := by omega
                               obtain ⟨hz, hl, h6⟩ := hz
                               subst hz
                               rw [cif_f (by decide), fr_l ⟨hl, h6⟩]
                               have e := ih (k + 1) (v1 + 0) (v2 + 1) 1 (vI (g 21 0 k)) (vI 1) (by omega) (by omega) (by omega) (by omega) (by omega) (by omega) (by omega) (by omega)
                               rw [cif_f (by decide)] at e
                               exact e)
                            | (have hz : ld = 0 ∧ ¬ (97 ≤ g 21 0 k ∧ g 21 0 k ≤ 96 + g 8 0 5) ∧ (g 21 0 k = 62 ∨ g 21 0 k = 61) ∧ 0 < v1 ∧ v2 = 0 := by omega
                               obtain ⟨hz, hl, h6, h7, h8⟩ := hz
                               subst hz
                               subst h8
                               rw [cif_t rfl, fr_a (fun z => hl z.1) ⟨h6, rfl, h7⟩]
                               have e := ih (k + 1) (v1 + 0) (0 + 0) 1 (vI (g 21 0 k)) (vI 1) (by omega) (by omega) (by omega) (by omega) (by omega) (by omega) (by omega) (by omega)
                               rw [cif_f (by decide)] at e
                               exact e)
                    · refine o_iconst (n := 129) rfl rfl ?_
                      refine o_goto (t := 133) rfl rfl ?_
                      refine o_iadd (n := 134) rfl rfl (by omega) ?_
                      refine o_istore_1 (n := 135) rfl rfl rfl ?_
                      refine o_iload_n (n := 136) rfl rfl rfl ?_
                      refine o_aload_n (n := 137) rfl rfl rfl ?_
                      refine o_iload (n := 139) rfl rfl rfl ?_
                      refine o_invi (n := 142) rfl rfl rfl rfl rfl rfl rfl rfl rfl rfl (c8_isSign _ hs0 hs1) ?_
                      refine o_ifb_eq (n := 145) (t := 153) rfl rfl rfl (fun k142 => ?_) (fun k142 => ?_)
                      · refine o_iconst (n := 154) rfl rfl ?_
                        refine o_iadd (n := 155) rfl rfl (by omega) ?_
                        refine o_istore_2 (n := 156) rfl rfl rfl ?_
                        refine o_iinc_4 (n := 159) rfl rfl rfl (by omega) ?_
                        refine o_goto (t := 9) rfl rfl ?_
                        first
                          | (exfalso; omega; done)
                          | (have hz : ld = 0 ∧ (97 ≤ g 21 0 k ∧ g 21 0 k ≤ 96 + g 8 0 5) ∧ v1 < 6 := by omega
                             obtain ⟨hz, hl, h6⟩ := hz
                             subst hz
                             rw [cif_t rfl, fr_l ⟨hl, h6⟩]
                             have e := ih (k + 1) (v1 + 1) (v2 + 0) 0 (vI (g 21 0 k)) (vI 1) (by omega) (by omega) (by omega) (by omega) (by omega) (by omega) (by omega) (by omega)
                             rw [cif_t rfl] at e
                             exact e)
                          | (have hz : ld = 1 ∧ (97 ≤ g 21 0 k ∧ g 21 0 k ≤ 96 + g 8 0 5) ∧ v2 < 6 := by omega
                             obtain ⟨hz, hl, h6⟩ := hz
                             subst hz
                             rw [cif_f (by decide), fr_l ⟨hl, h6⟩]
                             have e := ih (k + 1) (v1 + 0) (v2 + 1) 1 (vI (g 21 0 k)) (vI 1) (by omega) (by omega) (by omega) (by omega) (by omega) (by omega) (by omega) (by omega)
                             rw [cif_f (by decide)] at e
                             exact e)
                          | (have hz : ld = 0 ∧ ¬ (97 ≤ g 21 0 k ∧ g 21 0 k ≤ 96 + g 8 0 5) ∧ (g 21 0 k = 62 ∨ g 21 0 k = 61) ∧ 0 < v1 ∧ v2 = 0 := by omega
                             obtain ⟨hz, hl, h6, h7, h8⟩ := hz
                             subst hz
                             subst h8
                             rw [cif_t rfl, fr_a (fun z => hl z.1) ⟨h6, rfl, h7⟩]
                             have e := ih (k + 1) (v1 + 0) (0 + 0) 1 (vI (g 21 0 k)) (vI 1) (by omega) (by omega) (by omega) (by omega) (by omega) (by omega) (by omega) (by omega)
                             rw [cif_f (by decide)] at e
                             exact e)
                      · refine o_iload_n (n := 146) rfl rfl rfl ?_
                        refine o_if_eq (n := 149) (t := 153) rfl rfl rfl (fun k146 => ?_) (fun k146 => ?_)
                        · refine o_iconst (n := 154) rfl rfl ?_
                          refine o_iadd (n := 155) rfl rfl (by omega) ?_
                          refine o_istore_2 (n := 156) rfl rfl rfl ?_
                          refine o_iinc_4 (n := 159) rfl rfl rfl (by omega) ?_
                          refine o_goto (t := 9) rfl rfl ?_
                          first
                            | (exfalso; omega; done)
                            | (have hz : ld = 0 ∧ (97 ≤ g 21 0 k ∧ g 21 0 k ≤ 96 + g 8 0 5) ∧ v1 < 6 := by omega
                               obtain ⟨hz, hl, h6⟩ := hz
                               subst hz
                               rw [cif_t rfl, fr_l ⟨hl, h6⟩]
                               have e := ih (k + 1) (v1 + 1) (v2 + 0) 0 (vI (g 21 0 k)) (vI 1) (by omega) (by omega) (by omega) (by omega) (by omega) (by omega) (by omega) (by omega)
                               rw [cif_t rfl] at e
                               exact e)
                            | (have hz : ld = 1 ∧ (97 ≤ g 21 0 k ∧ g 21 0 k ≤ 96 + g 8 0 5) ∧ v2 < 6 := by omega
                               obtain ⟨hz, hl, h6⟩ := hz
                               subst hz
                               rw [cif_f (by decide), fr_l ⟨hl, h6⟩]
                               have e := ih (k + 1) (v1 + 0) (v2 + 1) 1 (vI (g 21 0 k)) (vI 1) (by omega) (by omega) (by omega) (by omega) (by omega) (by omega) (by omega) (by omega)
                               rw [cif_f (by decide)] at e
                               exact e)
                            | (have hz : ld = 0 ∧ ¬ (97 ≤ g 21 0 k ∧ g 21 0 k ≤ 96 + g 8 0 5) ∧ (g 21 0 k = 62 ∨ g 21 0 k = 61) ∧ 0 < v1 ∧ v2 = 0 := by omega
                               obtain ⟨hz, hl, h6, h7, h8⟩ := hz
                               subst hz
                               subst h8
                               rw [cif_t rfl, fr_a (fun z => hl z.1) ⟨h6, rfl, h7⟩]
                               have e := ih (k + 1) (v1 + 0) (0 + 0) 1 (vI (g 21 0 k)) (vI 1) (by omega) (by omega) (by omega) (by omega) (by omega) (by omega) (by omega) (by omega)
                               rw [cif_f (by decide)] at e
                               exact e)
                        · refine o_iconst (n := 150) rfl rfl ?_
                          refine o_goto (t := 154) rfl rfl ?_
                          refine o_iadd (n := 155) rfl rfl (by omega) ?_
                          refine o_istore_2 (n := 156) rfl rfl rfl ?_
                          refine o_iinc_4 (n := 159) rfl rfl rfl (by omega) ?_
                          refine o_goto (t := 9) rfl rfl ?_
                          first
                            | (exfalso; omega; done)
                            | (have hz : ld = 0 ∧ (97 ≤ g 21 0 k ∧ g 21 0 k ≤ 96 + g 8 0 5) ∧ v1 < 6 := by omega
                               obtain ⟨hz, hl, h6⟩ := hz
                               subst hz
                               rw [cif_t rfl, fr_l ⟨hl, h6⟩]
                               have e := ih (k + 1) (v1 + 1) (v2 + 0) 0 (vI (g 21 0 k)) (vI 1) (by omega) (by omega) (by omega) (by omega) (by omega) (by omega) (by omega) (by omega)
                               rw [cif_t rfl] at e
                               exact e)
                            | (have hz : ld = 1 ∧ (97 ≤ g 21 0 k ∧ g 21 0 k ≤ 96 + g 8 0 5) ∧ v2 < 6 := by omega
                               obtain ⟨hz, hl, h6⟩ := hz
                               subst hz
                               rw [cif_f (by decide), fr_l ⟨hl, h6⟩]
                               have e := ih (k + 1) (v1 + 0) (v2 + 1) 1 (vI (g 21 0 k)) (vI 1) (by omega) (by omega) (by omega) (by omega) (by omega) (by omega) (by omega) (by omega)
                               rw [cif_f (by decide)] at e
                               exact e)
                            | (have hz : ld = 0 ∧ ¬ (97 ≤ g 21 0 k ∧ g 21 0 k ≤ 96 + g 8 0 5) ∧ (g 21 0 k = 62 ∨ g 21 0 k = 61) ∧ 0 < v1 ∧ v2 = 0 := by omega
                               obtain ⟨hz, hl, h6, h7, h8⟩ := hz
                               subst hz
                               subst h8
                               rw [cif_t rfl, fr_a (fun z => hl z.1) ⟨h6, rfl, h7⟩]
                               have e := ih (k + 1) (v1 + 0) (0 + 0) 1 (vI (g 21 0 k)) (vI 1) (by omega) (by omega) (by omega) (by omega) (by omega) (by omega) (by omega) (by omega)
                               rw [cif_f (by decide)] at e
                               exact e)
                · refine o_aload_n (n := 100) rfl rfl rfl ?_
                  refine o_iload (n := 102) rfl rfl rfl ?_
                  refine o_invi (n := 105) rfl rfl rfl rfl rfl rfl rfl rfl rfl rfl (c8_isSign _ hs0 hs1) ?_
                  refine o_ifb_ne (n := 108) (t := 112) rfl rfl rfl (fun k105 => ?_) (fun k105 => ?_)
                  · refine o_iconst (n := 113) rfl rfl ?_
                    refine o_istore_3 (n := 114) rfl rfl rfl ?_
                    refine o_iload_n (n := 115) rfl rfl rfl ?_
                    refine o_aload_n (n := 116) rfl rfl rfl ?_
                    refine o_iload (n := 118) rfl rfl rfl ?_
                    refine o_invi (n := 121) rfl rfl rfl rfl rfl rfl rfl rfl rfl rfl (c8_isSign _ hs0 hs1) ?_
                    refine o_ifb_eq (n := 124) (t := 132) rfl rfl rfl (fun k121 => ?_) (fun k121 => ?_)
                    · refine o_iconst (n := 133) rfl rfl ?_
                      refine o_iadd (n := 134) rfl rfl (by omega) ?_
                      refine o_istore_1 (n := 135) rfl rfl rfl ?_
                      refine o_iload_n (n := 136) rfl rfl rfl ?_
                      refine o_aload_n (n := 137) rfl rfl rfl ?_
                      refine o_iload (n := 139) rfl rfl rfl ?_
                      refine o_invi (n := 142) rfl rfl rfl rfl rfl rfl rfl rfl rfl rfl (c8_isSign _ hs0 hs1) ?_
                      refine o_ifb_eq (n := 145) (t := 153) rfl rfl rfl (fun k142 => ?_) (fun k142 => ?_)
                      · refine o_iconst (n := 154) rfl rfl ?_
                        refine o_iadd (n := 155) rfl rfl (by omega) ?_
                        refine o_istore_2 (n := 156) rfl rfl rfl ?_
                        refine o_iinc_4 (n := 159) rfl rfl rfl (by omega) ?_
                        refine o_goto (t := 9) rfl rfl ?_
                        first
                          | (exfalso; omega; done)
                          | (have hz : ld = 0 ∧ (97 ≤ g 21 0 k ∧ g 21 0 k ≤ 96 + g 8 0 5) ∧ v1 < 6 := by omega
                             obtain ⟨hz, hl, h6⟩ := hz
                             subst hz
                             rw [cif_t rfl, fr_l ⟨hl, h6⟩]
                             have e := ih (k + 1) (v1 + 1) (v2 + 0) 0 (vI (g 21 0 k)) (vI 1) (by omega) (by omega) (by omega) (by omega) (by omega) (by omega) (by omega) (by omega)
                             rw [cif_t rfl] at e
                             exact e)
                          | (have hz : ld = 1 ∧ (97 ≤ g 21 0 k ∧ g 21 0 k ≤ 96 + g 8 0 5) ∧ v2 < 6 := by omega
                             obtain ⟨hz, hl, h6⟩ := hz
                             subst hz
                             rw [cif_f (by decide), fr_l ⟨hl, h6⟩]
                             have e := ih (k + 1) (v1 + 0) (v2 + 1) 1 (vI (g 21 0 k)) (vI 1) (by omega) (by omega) (by omega) (by omega) (by omega) (by omega) (by omega) (by omega)
                             rw [cif_f (by decide)] at e
                             exact e)
                          | (have hz : ld = 0 ∧ ¬ (97 ≤ g 21 0 k ∧ g 21 0 k ≤ 96 + g 8 0 5) ∧ (g 21 0 k = 62 ∨ g 21 0 k = 61) ∧ 0 < v1 ∧ v2 = 0 := by omega
                             obtain ⟨hz, hl, h6, h7, h8⟩ := hz
                             subst hz
                             subst h8
                             rw [cif_t rfl, fr_a (fun z => hl z.1) ⟨h6, rfl, h7⟩]
                             have e := ih (k + 1) (v1 + 0) (0 + 0) 1 (vI (g 21 0 k)) (vI 1) (by omega) (by omega) (by omega) (by omega) (by omega) (by omega) (by omega) (by omega)
                             rw [cif_f (by decide)] at e
                             exact e)
                      · refine o_iload_n (n := 146) rfl rfl rfl ?_
                        refine o_if_eq (n := 149) (t := 153) rfl rfl rfl (fun k146 => ?_) (fun k146 => ?_)
                        · refine o_iconst (n := 154) rfl rfl ?_
                          refine o_iadd (n := 155) rfl rfl (by omega) ?_
                          refine o_istore_2 (n := 156) rfl rfl rfl ?_
                          refine o_iinc_4 (n := 159) rfl rfl rfl (by omega) ?_
                          refine o_goto (t := 9) rfl rfl ?_
                          first
                            | (exfalso; omega; done)
                            | (have hz : ld = 0 ∧ (97 ≤ g 21 0 k ∧ g 21 0 k ≤ 96 + g 8 0 5) ∧ v1 < 6 := by omega
                               obtain ⟨hz, hl, h6⟩ := hz
                               subst hz
                               rw [cif_t rfl, fr_l ⟨hl, h6⟩]
                               have e := ih (k + 1) (v1 + 1) (v2 + 0) 0 (vI (g 21 0 k)) (vI 1) (by omega) (by omega) (by omega) (by omega) (by omega) (by omega) (by omega) (by omega)
                               rw [cif_t rfl] at e
                               exact e)
                            | (have hz : ld = 1 ∧ (97 ≤ g 21 0 k ∧ g 21 0 k ≤ 96 + g 8 0 5) ∧ v2 < 6 := by omega
                               obtain ⟨hz, hl, h6⟩ := hz
                               subst hz
                               rw [cif_f (by decide), fr_l ⟨hl, h6⟩]
                               have e := ih (k + 1) (v1 + 0) (v2 + 1) 1 (vI (g 21 0 k)) (vI 1) (by omega) (by omega) (by omega) (by omega) (by omega) (by omega) (by omega) (by omega)
                               rw [cif_f (by decide)] at e
                               exact e)
                            | (have hz : ld = 0 ∧ ¬ (97 ≤ g 21 0 k ∧ g 21 0 k ≤ 96 + g 8 0 5) ∧ (g 21 0 k = 62 ∨ g 21 0 k = 61) ∧ 0 < v1 ∧ v2 = 0 := by omega
                               obtain ⟨hz, hl, h6, h7, h8⟩ := hz
                               subst hz
                               subst h8
                               rw [cif_t rfl, fr_a (fun z => hl z.1) ⟨h6, rfl, h7⟩]
                               have e := ih (k + 1) (v1 + 0) (0 + 0) 1 (vI (g 21 0 k)) (vI 1) (by omega) (by omega) (by omega) (by omega) (by omega) (by omega) (by omega) (by omega)
                               rw [cif_f (by decide)] at e
                               exact e)
                        · refine o_iconst (n := 150) rfl rfl ?_
                          refine o_goto (t := 154) rfl rfl ?_
                          refine o_iadd (n := 155) rfl rfl (by omega) ?_
                          refine o_istore_2 (n := 156) rfl rfl rfl ?_
                          refine o_iinc_4 (n := 159) rfl rfl rfl (by omega) ?_
                          refine o_goto (t := 9) rfl rfl ?_
                          first
                            | (exfalso; omega; done)
                            | (have hz : ld = 0 ∧ (97 ≤ g 21 0 k ∧ g 21 0 k ≤ 96 + g 8 0 5) ∧ v1 < 6 := by omega
                               obtain ⟨hz, hl, h6⟩ := hz
                               subst hz
                               rw [cif_t rfl, fr_l ⟨hl, h6⟩]
                               have e := ih (k + 1) (v1 + 1) (v2 + 0) 0 (vI (g 21 0 k)) (vI 1) (by omega) (by omega) (by omega) (by omega) (by omega) (by omega) (by omega) (by omega)
                               rw [cif_t rfl] at e
                               exact e)
                            | (have hz : ld = 1 ∧ (97 ≤ g 21 0 k ∧ g 21 0 k ≤ 96 + g 8 0 5) ∧ v2 < 6 := by omega
                               obtain ⟨hz, hl, h6⟩ := hz
                               subst hz
                               rw [cif_f (by decide), fr_l ⟨hl, h6⟩]
                               have e := ih (k + 1) (v1 + 0) (v2 + 1) 1 (vI (g 21 0 k)) (vI 1) (by omega) (by omega) (by omega) (by omega) (by omega) (by omega) (by omega) (by omega)
                               rw [cif_f (by decide)] at e
                               exact e)
                            | (have hz : ld = 0 ∧ ¬ (97 ≤ g 21 0 k ∧ g 21 0 k ≤ 96 + g 8 0 5) ∧ (g 21 0 k = 62 ∨ g 21 0 k = 61) ∧ 0 < v1 ∧ v2 = 0 := by omega
                               obtain ⟨hz, hl, h6, h7, h8⟩ := hz
                               subst hz
                               subst h8
                               rw [cif_t rfl, fr_a (fun z => hl z.1) ⟨h6, rfl, h7⟩]
                               have e := ih (k + 1) (v1 + 0) (0 + 0) 1 (vI (g 21 0 k)) (vI 1) (by omega) (by omega) (by omega) (by omega) (by omega) (by omega) (by omega) (by omega)
                               rw [cif_f (by decide)] at e
                               exact e)
                    · refine o_iload_n (n := 125) rfl rfl rfl ?_
                      refine o_if_ne (n := 128) (t := 132) rfl rfl rfl (fun k125 => ?_) (fun k125 => ?_)
                      · refine o_iconst (n := 133) rfl rfl ?_
                        refine o_iadd (n := 134) rfl rfl (by omega) ?_
                        refine o_istore_1 (n := 135) rfl rfl rfl ?_
                        refine o_iload_n (n := 136) rfl rfl rfl ?_
                        refine o_aload_n (n := 137) rfl rfl rfl ?_
                        refine o_iload (n := 139) rfl rfl rfl ?_
                        refine o_invi (n := 142) rfl rfl rfl rfl rfl rfl rfl rfl rfl rfl (c8_isSign _ hs0 hs1) ?_
                        refine o_ifb_eq (n := 145) (t := 153) rfl rfl rfl (fun k142 => ?_) (fun k142 => ?_)
                        · refine o_iconst (n := 154) rfl rfl ?_
                          refine o_iadd (n := 155) rfl rfl (by omega) ?_
                          refine o_istore_2 (n := 156) rfl rfl rfl ?_
                          refine o_iinc_4 (n := 159) rfl rfl rfl (by omega) ?_
                          refine o_goto (t := 9) rfl rfl ?_
                          first
                            | (exfalso; omega; done)
                            | (have hz : ld = 0 ∧ (97 ≤ g 21 0 k ∧ g 21 0 k ≤ 96 + g 8 0 5) ∧ v1 < 6 := by omega
                               obtain ⟨hz, hl, h6⟩ := hz
                               subst hz
                               rw [cif_t rfl, fr_l ⟨hl, h6⟩]
                               have e := ih (k + 1) (v1 + 1) (v2 + 0) 0 (vI (g 21 0 k)) (vI 1) (by omega) (by omega) (by omega) (by omega) (by omega) (by omega) (by omega) (by omega)
                               rw [cif_t rfl] at e
                               exact e)
                            | (have hz : ld = 1 ∧ (97 ≤ g 21 0 k ∧ g 21 0 k ≤ 96 + g 8 0 5) ∧ v2 < 6 := by omega
                               obtain ⟨hz, hl, h6⟩ := hz
                               subst hz
                               rw [cif_f (by decide), fr_l ⟨hl, h6⟩]
                               have e := ih (k + 1) (v1 + 0) (v2 + 1) 1 (vI (g 21 0 k)) (vI 1) (by omega) (by omega) (by omega) (by omega) (by omega) (by omega) (by omega) (by omega)
                               rw [cif_f (by decide)] at e
                               exact e)
                            | (have hz : ld = 0 ∧ ¬ (97 ≤ g 21 0 k ∧ g 21 0 k ≤ 96 + g 8 0 5) ∧ (g 21 0 k = 62 ∨ g 21 0 k = 61) ∧ 0 < v1 ∧ v2 = 0 := by omega
                               obtain ⟨hz, hl, h6, h7, h8⟩ := hz
                               subst hz
                               subst h8
                               rw [cif_t rfl, fr_a (fun z => hl z.1) ⟨h6, rfl, h7⟩]
                               have e := ih (k + 1) (v1 + 0) (0 + 0) 1 (vI (g 21 0 k)) (vI 1) (by omega) (by omega) (by omega) (by omega) (by omega) (by omega) (by omega) (by omega)
                               rw [cif_f (by decide)] at e
                               exact e)
                        · refine o_iload_n (n := 146) rfl rfl rfl ?_
                          refine o_if_eq (n := 149) (t := 153) rfl rfl rfl (fun k146 => ?_) (fun k146 => ?_)
                          · refine o_iconst (n := 154) rfl rfl ?_
                            refine o_iadd (n := 155) rfl rfl (by omega) ?_
                            refine o_istore_2 (n := 156) rfl rfl rfl ?_
                            refine o_iinc_4 (n := 159) rfl rfl rfl (by omega) ?_
                            refine o_goto (t := 9) rfl rfl ?_
                            first
                              | (exfalso; omega; done)
                              | (have hz : ld = 0 ∧ (97 ≤ g 21 0 k ∧ g 21 0 k ≤ 96 + g 8 0 5) ∧ v1 < 6 := by omega
                                 obtain ⟨hz, hl, h6⟩ := hz
                                 subst hz
                                 rw [cif_t rfl, fr_l ⟨hl, h6⟩]
                                 have e := ih (k + 1) (v1 + 1) (v2 + 0) 0 (vI (g 21 0 k)) (vI 1) (by omega) (by omega) (by omega) (by omega) (by omega) (by omega) (by omega) (by omega)
                                 rw [cif_t rfl] at e
                                 exact e)
                              | (have hz : ld = 1 ∧ (97 ≤ g 21 0 k ∧ g 21 0 k ≤ 96 + g 8 0 5) ∧ v2 < 6 := by omega
                                 obtain ⟨hz, hl, h6⟩ := hz
                                 subst hz
                                 rw [cif_f (by decide), fr_l ⟨hl, h6⟩]
                                 have e := ih (k + 1) (v1 + 0) (v2 + 1) 1 (vI (g 21 0 k)) (vI 1) (by omega) (by omega) (by omega) (by omega) (by omega) (by omega) (by omega) (by omega)
                                 rw [cif_f (by decide)] at e
                                 exact e)
                              | (have hz : ld = 0 ∧ ¬ (97 ≤ g 21 0 k ∧ g 21 0 k ≤ 96 + g 8 0 5) ∧ (g 21 0 k = 62 ∨ g 21 0 k = 61) ∧ 0 < v1 ∧ v2 = 0 := by omega
                                 obtain ⟨hz, hl, h6, h7, h8⟩ := hz
                                 subst hz
                                 subst h8
                                 rw [cif_t rfl, fr_a (fun z => hl z.1) ⟨h6, rfl, h7⟩]
                                 have e := ih (k + 1) (v1 + 0) (0 + 0) 1 (vI (g 21 0 k)) (vI 1) (by omega) (by omega) (by omega) (by omega) (by omega) (by omega) (by omega) (by omega)
                                 rw [cif_f (by decide)] at e
                                 exact e)
                          · refine o_iconst (n := 150) rfl rfl ?_
                            refine o_goto (t := 154) rfl rfl ?_
                            refine o_iadd (n := 155) rfl rfl (by omega) ?_
                            refine o_istore_2 (n := 156) rfl rfl rfl ?_
                            refine o_iinc_4 (n := 159) rfl rfl rfl (by omega) ?_
                            refine o_goto (t := 9) rfl rfl ?_
                            first
                              | (exfalso; omega; done)
                              | (have hz : ld = 0 ∧ (97 ≤ g 21 0 k ∧ g 21 0 k ≤ 96 + g 8 0 5) ∧ v1 < 6 := by omega
                                 obtain ⟨hz, hl, h6⟩ := hz
                                 subst hz
                                 rw [cif_t rfl, fr_l ⟨hl, h6⟩]
                                 have e := ih (k + 1) (v1 + 1) (v2 + 0) 0 (vI (g 21 0 k)) (vI 1) (by omega) (by omega) (by omega) (by omega) (by omega) (by omega) (by omega) (by omega)
                                 rw [cif_t rfl] at e
                                 exact e)
                              | (have hz : ld = 1 ∧ (97 ≤ g 21 0 k ∧ g 21 0 k ≤ 96 + g 8 0 5) ∧ v2 < 6 := by omega
                                 obtain ⟨hz, hl, h6⟩ := hz
                                 subst hz
                                 rw [cif_f (by decide), fr_l ⟨hl, h6⟩]
                                 have e := ih (k + 1) (v1 + 0) (v2 + 1) 1 (vI (g 21 0 k)) (vI 1) (by omega) (by omega) (by omega) (by omega) (by omega) (by omega) (by omega) (by omega)
                                 rw [cif_f (by decide)] at e
                                 exact e)
                              | (have hz : ld = 0 ∧ ¬ (97 ≤ g 21 0 k ∧ g 21 0 k ≤ 96 + g 8 0 5) ∧ (g 21 0 k = 62 ∨ g 21 0 k = 61) ∧ 0 < v1 ∧ v2 = 0 := by omega
                                 obtain ⟨hz, hl, h6, h7, h8⟩ := hz
                                 subst hz
                                 subst h8
                                 rw [cif_t rfl, fr_a (fun z => hl z.1) ⟨h6, rfl, h7⟩]
                                 have e := ih (k + 1) (v1 + 0) (0 + 0) 1 (vI (g 21 0 k)) (vI 1) (by omega) (by omega) (by omega) (by omega) (by omega) (by omega) (by omega) (by omega)
                                 rw [cif_f (by decide)] at e
                                 exact e)
                      · refine o_iconst (n := 129) rfl rfl ?_
                        refine o_goto (t := 133) rfl rfl ?_
                        refine o_iadd (n := 134) rfl rfl (by omega) ?_
                        refine o_istore_1 (n := 135) rfl rfl rfl ?_
                        refine o_iload_n (n := 136) rfl rfl rfl ?_
                        refine o_aload_n (n := 137) rfl rfl rfl ?_
                        refine o_iload (n := 139) rfl rfl rfl ?_
                        refine o_invi (n := 142) rfl rfl rfl rfl rfl rfl rfl rfl rfl rfl (c8_isSign _ hs0 hs1) ?_
                        refine o_ifb_eq (n := 145) (t := 153) rfl rfl rfl (fun k142 => ?_) (fun k142 => ?_)
                        · refine o_iconst (n := 154) rfl rfl ?_
                          refine o_iadd (n := 155) rfl rfl (by omega) ?_
                          refine o_istore_2 (n := 156) rfl rfl rfl ?_
                          refine o_iinc_4 (n := 159) rfl rfl rfl (by omega) ?_
                          refine o_goto (t := 9) rfl rfl ?_
                          first
                            | (exfalso; omega; done)
                            | (have hz : ld = 0 ∧ (97 ≤ g 21 0 k ∧ g 21 0 k ≤ 96 + g 8 0 5) ∧ v1 < 6 := by omega
                               obtain ⟨hz, hl, h6⟩ := hz
                               subst hz
                               rw [cif_t rfl, fr_l ⟨hl, h6⟩]
                               have e := ih (k + 1) (v1 + 1) (v2 + 0) 0 (vI (g 21 0 k)) (vI 1) (by omega) (by omega) (by omega) (by omega) (by omega) (by omega) (by omega) (by omega)
                               rw [cif_t rfl] at e
                               exact e)
                            | (have hz : ld = 1 ∧ (97 ≤ g 21 0 k ∧ g 21 0 k ≤ 96 + g 8 0 5) ∧ v2 < 6 := by omega
                               obtain ⟨hz, hl, h6⟩ := hz
                               subst hz
                               rw [cif_f (by decide), fr_l ⟨hl, h6⟩]
                               have e := ih (k + 1) (v1 + 0) (v2 + 1) 1 (vI (g 21 0 k)) (vI 1) (by omega) (by omega) (by omega) (by omega) (by omega) (by omega) (by omega) (by omega)
                               rw [cif_f (by decide)] at e
                               exact e)
                            | (have hz : ld = 0 ∧ ¬ (97 ≤ g 21 0 k ∧ g 21 0 k ≤ 96 + g 8 0 5) ∧ (g 21 0 k = 62 ∨ g 21 0 k = 61) ∧ 0 < v1 ∧ v2 = 0 := by omega
                               obtain ⟨hz, hl, h6, h7, h8⟩ := hz
                               subst hz
                               subst h8
                               rw [cif_t rfl, fr_a (fun z => hl z.1) ⟨h6, rfl, h7⟩]
                               have e := ih (k + 1) (v1 + 0) (0 + 0) 1 (vI (g 21 0 k)) (vI 1) (by omega) (by omega) (by omega) (by omega) (by omega) (by omega) (by omega) (by omega)
                               rw [cif_f (by decide)] at e
                               exact e)
                        · refine o_iload_n (n := 146) rfl rfl rfl ?_
                          refine o_if_eq (n := 149) (t := 153) rfl rfl rfl (fun k146 => ?_) (fun k146 => ?_)
                          · refine o_iconst (n := 154) rfl rfl ?_
                            refine o_iadd (n := 155) rfl rfl (by omega) ?_
                            refine o_istore_2 (n := 156) rfl rfl rfl ?_
                            refine o_iinc_4 (n := 159) rfl rfl rfl (by omega) ?_
                            refine o_goto (t := 9) rfl rfl ?_
                            first
                              | (exfalso; omega; done)
                              | (have hz : ld = 0 ∧ (97 ≤ g 21 0 k ∧ g 21 0 k ≤ 96 + g 8 0 5) ∧ v1 < 6 := by omega
                                 obtain ⟨hz, hl, h6⟩ := hz
                                 subst hz
                                 rw [cif_t rfl, fr_l ⟨hl, h6⟩]
                                 have e := ih (k + 1) (v1 + 1) (v2 + 0) 0 (vI (g 21 0 k)) (vI 1) (by omega) (by omega) (by omega) (by omega) (by omega) (by omega) (by omega) (by omega)
                                 rw [cif_t rfl] at e
                                 exact e)
                              | (have hz : ld = 1 ∧ (97 ≤ g 21 0 k ∧ g 21 0 k ≤ 96 + g 8 0 5) ∧ v2 < 6 := by omega
                                 obtain ⟨hz, hl, h6⟩ := hz
                                 subst hz
                                 rw [cif_f (by decide), fr_l ⟨hl, h6⟩]
                                 have e := ih (k + 1) (v1 + 0) (v2 + 1) 1 (vI (g 21 0 k)) (vI 1) (by omega) (by omega) (by omega) (by omega) (by omega) (by omega) (by omega) (by omega)
                                 rw [cif_f (by decide)] at e
                                 exact e)
                              | (have hz : ld = 0 ∧ ¬ (97 ≤ g 21 0 k ∧ g 21 0 k ≤ 96 + g 8 0 5) ∧ (g 21 0 k = 62 ∨ g 21 0 k = 61) ∧ 0 < v1 ∧ v2 = 0 := by omega
                                 obtain ⟨hz, hl, h6, h7, h8⟩ := hz
                                 subst hz
                                 subst h8
                                 rw [cif_t rfl, fr_a (fun z => hl z.1) ⟨h6, rfl, h7⟩]
                                 have e := ih (k + 1) (v1 + 0) (0 + 0) 1 (vI (g 21 0 k)) (vI 1) (by omega) (by omega) (by omega) (by omega) (by omega) (by omega) (by omega) (by omega)
                                 rw [cif_f (by decide)] at e
                                 exact e)
                          · refine o_iconst (n := 150) rfl rfl ?_
                            refine o_goto (t := 154) rfl rfl ?_
                            refine o_iadd (n := 155) rfl rfl (by omega) ?_
                            refine o_istore_2 (n := 156) rfl rfl rfl ?_
                            refine o_iinc_4 (n := 159) rfl rfl rfl (by omega) ?_
                            refine o_goto (t := 9) rfl rfl ?_
                            first
                              | (exfalso; omega; done)
                              | (have hz : ld = 0 ∧ (97 ≤ g 21 0 k ∧ g 21 0 k ≤ 96 + g 8 0 5) ∧ v1 < 6 := by omega
                                 obtain ⟨hz, hl, h6⟩ := hz
                                 subst hz
                                 rw [cif_t rfl, fr_l ⟨hl, h6⟩]
                                 have e := ih (k + 1) (v1 + 1) (v2 + 0) 0 (vI (g 21 0 k)) (vI 1) (by omega) (by omega) (by omega) (by omega) (by omega) (by omega) (by omega) (by omega)
                                 rw [cif_t rfl] at e
                                 exact e)
                              | (have hz : ld = 1 ∧ (97 ≤ g 21 0 k ∧ g 21 0 k ≤ 96 + g 8 0 5) ∧ v2 < 6 := by omega
                                 obtain ⟨hz, hl, h6⟩ := hz
                                 subst hz
                                 rw [cif_f (by decide), fr_l ⟨hl, h6⟩]
                                 have e := ih (k + 1) (v1 + 0) (v2 + 1) 1 (vI (g 21 0 k)) (vI 1) (by omega) (by omega) (by omega) (by omega) (by omega) (by omega) (by omega) (by omega)
                                 rw [cif_f (by decide)] at e
                                 exact e)
                              | (have hz : ld = 0 ∧ ¬ (97 ≤ g 21 0 k ∧ g 21 0 k ≤ 96 + g 8 0 5) ∧ (g 21 0 k = 62 ∨ g 21 0 k = 61) ∧ 0 < v1 ∧ v2 = 0 := by omega
                                 obtain ⟨hz, hl, h6, h7, h8⟩ := hz
                                 subst hz
                                 subst h8
                                 rw [cif_t rfl, fr_a (fun z => hl z.1) ⟨h6, rfl, h7⟩]
                                 have e := ih (k + 1) (v1 + 0) (0 + 0) 1 (vI (g 21 0 k)) (vI 1) (by omega) (by omega) (by omega) (by omega) (by omega) (by omega) (by omega) (by omega)
                                 rw [cif_f (by decide)] at e
                                 exact e)
                  · refine o_iconst (n := 109) rfl rfl ?_
                    refine o_goto (t := 113) rfl rfl ?_
                    refine o_istore_3 (n := 114) rfl rfl rfl ?_
                    refine o_iload_n (n := 115) rfl rfl rfl ?_
                    refine o_aload_n (n := 116) rfl rfl rfl ?_
                    refine o_iload (n := 118) rfl rfl rfl ?_
                    refine o_invi (n := 121) rfl rfl rfl rfl rfl rfl rfl rfl rfl rfl (c8_isSign _ hs0 hs1) ?_
                    refine o_ifb_eq (n := 124) (t := 132) rfl rfl rfl (fun k121 => ?_) (fun k121 => ?_)
                    · refine o_iconst (n := 133) rfl rfl ?_
                      refine o_iadd (n := 134) rfl rfl (by omega) ?_
                      refine o_istore_1 (n := 135) rfl rfl rfl ?_
                      refine o_iload_n (n := 136) rfl rfl rfl ?_
                      refine o_aload_n (n := 137) rfl rfl rfl ?_
                      refine o_iload (n := 139) rfl rfl rfl ?_
                      refine o_invi (n := 142) rfl rfl rfl rfl rfl rfl rfl rfl rfl rfl (c8_isSign _ hs0 hs1) ?_
                      refine o_ifb_eq (n := 145) (t := 153) rfl rfl rfl (fun k142 => ?_) (fun k142 => ?_)
                      · refine o_iconst (n := 154) rfl rfl ?_
                        refine o_iadd (n := 155) rfl rfl (by omega) ?_
                        refine o_istore_2 (n := 156) rfl rfl rfl ?_
                        refine o_iinc_4 (n := 159) rfl rfl rfl (by omega) ?_
                        refine o_goto (t := 9) rfl rfl ?_
                        first
                          | (exfalso; omega; done)
                          | (have hz : ld = 0 ∧ (97 ≤ g 21 0 k ∧ g 21 0 k ≤ 96 + g 8 0 5) ∧ v1 < 6 := by omega
                             obtain ⟨hz, hl, h6⟩ := hz
                             subst hz
                             rw [cif_t rfl, fr_l ⟨hl, h6⟩]
                             have e := ih (k + 1) (v1 + 1) (v2 + 0) 0 (vI (g 21 0 k)) (vI 1) (by omega) (by omega) (by omega) (by omega) (by omega) (by omega) (by omega) (by omega)
                             rw [cif_t rfl] at e
                             exact e)
                          | (have hz : ld = 1 ∧ (97 ≤ g 21 0 k ∧ g 21 0 k ≤ 96 + g 8 0 5) ∧ v2 < 6 := by omega
                             obtain ⟨hz, hl, h6⟩ := hz
                             subst hz
                             rw [cif_f (by decide), fr_l ⟨hl, h6⟩]
                             have e := ih (k + 1) (v1 + 0) (v2 + 1) 1 (vI (g 21 0 k)) (vI 1) (by omega) (by omega) (by omega) (by omega) (by omega) (by omega) (by omega) (by omega)
                             rw [cif_f (by decide)] at e
                             exact e)
                          | (have hz : ld = 0 ∧ ¬ (97 ≤ g 21 0 k ∧ g 21 0 k ≤ 96 + g 8 0 5) ∧ (g 21 0 k = 62 ∨ g 21 0 k = 61) ∧ 0 < v1 ∧ v2 = 0 := by omega
                             obtain ⟨hz, hl, h6, h7, h8⟩ := hz
                             subst hz
                             subst h8
                             rw [cif_t rfl, fr_a (fun z => hl z.1) ⟨h6, rfl, h7⟩]
                             have e := ih (k + 1) (v1 + 0) (0 + 0) 1 (vI (g 21 0 k)) (vI 1) (by omega) (by omega) (by omega) (by omega) (by omega) (by omega) (by omega) (by omega)
                             rw [cif_f (by decide)] at e
                             exact e)
                      · refine o_iload_n (n := 146) rfl rfl rfl ?_
                        refine o_if_eq (n := 149) (t := 153) rfl rfl rfl (fun k146 => ?_) (fun k146 => ?_)
                        · refine o_iconst (n := 154) rfl rfl ?_
                          refine o_iadd (n := 155) rfl rfl (by omega) ?_
                          refine o_istore_2 (n := 156) rfl rfl rfl ?_
                          refine o_iinc_4 (n := 159) rfl rfl rfl (by omega) ?_
                          refine o_goto (t := 9) rfl rfl ?_
                          first
                            | (exfalso; omega; done)
                            | (have hz : ld = 0 ∧ (97 ≤ g 21 0 k ∧ g 21 0 k ≤ 96 + g 8 0 5) ∧ v1 < 6 := by omega
                               obtain ⟨hz, hl, h6⟩ := hz
                               subst hz
                               rw [cif_t rfl, fr_l ⟨hl, h6⟩]
                               have e := ih (k + 1) (v1 + 1) (v2 + 0) 0 (vI (g 21 0 k)) (vI 1) (by omega) (by omega) (by omega) (by omega) (by omega) (by omega) (by omega) (by omega)
                               rw [cif_t rfl] at e
                               exact e)
                            | (have hz : ld = 1 ∧ (97 ≤ g 21 0 k ∧ g 21 0 k ≤ 96 + g 8 0 5) ∧ v2 < 6 := by omega
                               obtain ⟨hz, hl, h6⟩ := hz
                               subst hz
                               rw [cif_f (by decide), fr_l ⟨hl, h6⟩]
                               have e := ih (k + 1) (v1 + 0) (v2 + 1) 1 (vI (g 21 0 k)) (vI 1) (by omega) (by omega) (by omega) (by omega) (by omega) (by omega) (by omega) (by omega)
                               rw [cif_f (by decide)] at e
                               exact e)
                            | (have hz : ld = 0 ∧ ¬ (97 ≤ g 21 0 k ∧ g 21 0 k ≤ 96 + g 8 0 5) ∧ (g 21 0 k = 62 ∨ g 21 0 k = 61) ∧ 0 < v1 ∧ v2 = 0 := by omega
                               obtain ⟨hz, hl, h6, h7, h8⟩ := hz
                               subst hz
                               subst h8
                               rw [cif_t rfl, fr_a (fun z => hl z.1) ⟨h6, rfl, h7⟩]
                               have e := ih (k + 1) (v1 + 0) (0 + 0) 1 (vI (g 21 0 k)) (vI 1) (by omega) (by omega) (by omega) (by omega) (by omega) (by omega) (by omega) (by omega)
                               rw [cif_f (by decide)] at e
                               exact e)
                        · refine o_iconst (n := 150) rfl rfl ?_
                          refine o_goto (t := 154) rfl rfl ?_
                          refine o_iadd (n := 155) rfl rfl (by omega) ?_
                          refine o_istore_2 (n := 156) rfl rfl rfl ?_
                          refine o_iinc_4 (n := 159) rfl rfl rfl (by omega) ?_
                          refine o_goto (t := 9) rfl rfl ?_
                          first
                            | (exfalso; omega; done)
                            | (have hz : ld = 0 ∧ (97 ≤ g 21 0 k ∧ g 21 0 k ≤ 96 + g 8 0 5) ∧ v1 < 6 := by omega
                               obtain ⟨hz, hl, h6⟩ := hz
                               subst hz
                               rw [cif_t rfl, fr_l ⟨hl, h6⟩]
                               have e := ih (k + 1) (v1 + 1) (v2 + 0) 0 (vI (g 21 0 k)) (vI 1) (by omega) (by omega) (by omega) (by omega) (by omega) (by omega) (by omega) (by omega)
                               rw [cif_t rfl] at e
                               exact e)
                            | (have hz : ld = 1 ∧ (97 ≤ g 21 0 k ∧ g 21 0 k ≤ 96 + g 8 0 5) ∧ v2 < 6 := by omega
                               obtain ⟨hz, hl, h6⟩ := hz
                               subst hz
                               rw [cif_f (by decide), fr_l ⟨hl, h6⟩]
                               have e := ih (k + 1) (v1 + 0) (v2 + 1) 1 (vI (g 21 0 k)) (vI 1) (by omega) (by omega) (by omega) (by omega) (by omega) (by omega) (by omega) (by omega)
                               rw [cif_f (by decide)] at e
                               exact e)
                            | (have hz : ld = 0 ∧ ¬ (97 ≤ g 21 0 k ∧ g 21 0 k ≤ 96 + g 8 0 5) ∧ (g 21 0 k = 62 ∨ g 21 0 k = 61) ∧ 0 < v1 ∧ v2 = 0 := by omega
                               obtain ⟨hz, hl, h6, h7, h8⟩ := hz
                               subst hz
                               subst h8
                               rw [cif_t rfl, fr_a (fun z => hl z.1) ⟨h6, rfl, h7⟩]
                               have e := ih (k + 1) (v1 + 0) (0 + 0) 1 (vI (g 21 0 k)) (vI 1) (by omega) (by omega) (by omega) (by omega) (by omega) (by omega) (by omega) (by omega)
                               rw [cif_f (by decide)] at e
                               exact e)
                    · refine o_iload_n (n := 125) rfl rfl rfl ?_
                      refine o_if_ne (n := 128) (t := 132) rfl rfl rfl (fun k125 => ?_) (fun k125 => ?_)
                      · refine o_iconst (n := 133) rfl rfl ?_
                        refine o_iadd (n := 134) rfl rfl (by omega) ?_
                        refine o_istore_1 (n := 135) rfl rfl rfl ?_
                        refine o_iload_n (n := 136) rfl rfl rfl ?_
                        refine o_aload_n (n := 137) rfl rfl rfl ?_
                        refine o_iload (n := 139) rfl rfl rfl ?_
                        refine o_invi (n := 142) rfl rfl rfl rfl rfl rfl rfl rfl rfl rfl (c8_isSign _ hs0 hs1) ?_
                        refine o_ifb_eq (n := 145) (t := 153) rfl rfl rfl (fun k142 => ?_) (fun k142 => ?_)
                        · refine o_iconst (n := 154) rfl rfl ?_
                          refine o_iadd (n := 155) rfl rfl (by omega) ?_
                          refine o_istore_2 (n := 156) rfl rfl rfl ?_
                          refine o_iinc_4 (n := 159) rfl rfl rfl (by omega) ?_
                          refine o_goto (t := 9) rfl rfl ?_
                          first
                            | (exfalso; omega; done)
                            | (have hz : ld = 0 ∧ (97 ≤ g 21 0 k ∧ g 21 0 k ≤ 96 + g 8 0 5) ∧ v1 < 6 := by omega
                               obtain ⟨hz, hl, h6⟩ := hz
                               subst hz
                               rw [cif_t rfl, fr_l ⟨hl, h6⟩]
                               have e := ih (k + 1) (v1 + 1) (v2 + 0) 0 (vI (g 21 0 k)) (vI 1) (by omega) (by omega) (by omega) (by omega) (by omega) (by omega) (by omega) (by omega)
                               rw [cif_t rfl] at e
                               exact e)
                            | (have hz : ld = 1 ∧ (97 ≤ g 21 0 k ∧ g 21 0 k ≤ 96 + g 8 0 5) ∧ v2 < 6 := by omega
                               obtain ⟨hz, hl, h6⟩ := hz
                               subst hz
                               rw [cif_f (by decide), fr_l ⟨hl, h6⟩]
                               have e := ih (k + 1) (v1 + 0) (v2 + 1) 1 (vI (g 21 0 k)) (vI 1) (by omega) (by omega) (by omega) (by omega) (by omega) (by omega) (by omega) (by omega)
                               rw [cif_f (by decide)] at e
                               exact e)
                            | (have hz : ld = 0 ∧ ¬ (97 ≤ g 21 0 k ∧ g 21 0 k ≤ 96 + g 8 0 5) ∧ (g 21 0 k = 62 ∨ g 21 0 k = 61) ∧ 0 < v1 ∧ v2 = 0 := by omega
                               obtain ⟨hz, hl, h6, h7, h8⟩ := hz
                               subst hz
                               subst h8
                               rw [cif_t rfl, fr_a (fun z => hl z.1) ⟨h6, rfl, h7⟩]
                               have e := ih (k + 1) (v1 + 0) (0 + 0) 1 (vI (g 21 0 k)) (vI 1) (by omega) (by omega) (by omega) (by omega) (by omega) (by omega) (by omega) (by omega)
                               rw [cif_f (by decide)] at e
                               exact e)
                        · refine o_iload_n (n := 146) rfl rfl rfl ?_
                          refine o_if_eq (n := 149) (t := 153) rfl rfl rfl (fun k146 => ?_) (fun k146 => ?_)
                          · refine o_iconst (n := 154) rfl rfl ?_
                            refine o_iadd (n := 155) rfl rfl (by omega) ?_
                            refine o_istore_2 (n := 156) rfl rfl rfl ?_
                            refine o_iinc_4 (n := 159) rfl rfl rfl (by omega) ?_
                            refine o_goto (t := 9) rfl rfl ?_
                            first
                              | (exfalso; omega; done)
                              | (have hz : ld = 0 ∧ (97 ≤ g 21 0 k ∧ g 21 0 k ≤ 96 + g 8 0 5) ∧ v1 < 6 := by omega
                                 obtain ⟨hz, hl, h6⟩ := hz
                                 subst hz
                                 rw [cif_t rfl, fr_l ⟨hl, h6⟩]
                                 have e := ih (k + 1) (v1 + 1) (v2 + 0) 0 (vI (g 21 0 k)) (vI 1) (by omega) (by omega) (by omega) (by omega) (by omega) (by omega) (by omega) (by omega)
                                 rw [cif_t rfl] at e
                                 exact e)
                              | (have hz : ld = 1 ∧ (97 ≤ g 21 0 k ∧ g 21 0 k ≤ 96 + g 8 0 5) ∧ v2 < 6 := by omega
                                 obtain ⟨hz, hl, h6⟩ := hz
                                 subst hz
                                 rw [cif_f (by decide), fr_l ⟨hl, h6⟩]
                                 have e := ih (k + 1) (v1 + 0) (v2 + 1) 1 (vI (g 21 0 k)) (vI 1) (by omega) (by omega) (by omega) (by omega) (by omega) (by omega) (by omega) (by omega)
                                 rw [cif_f (by decide)] at e
                                 exact e)
                              | (have hz : ld = 0 ∧ ¬ (97 ≤ g 21 0 k ∧ g 21 0 k ≤ 96 + g 8 0 5) ∧ (g 21 0 k = 62 ∨ g 21 0 k = 61) ∧ 0 < v1 ∧ v2 = 0 := by omega
                                 obtain ⟨hz, hl, h6, h7, h8⟩ := hz
                                 subst hz
                                 subst h8
                                 rw [cif_t rfl, fr_a (fun z => hl z.1) ⟨h6, rfl, h7⟩]
                                 have e := ih (k + 1) (v1 + 0) (0 + 0) 1 (vI (g 21 0 k)) (vI 1) (by omega) (by omega) (by omega) (by omega) (by omega) (by omega) (by omega) (by omega)
                                 rw [cif_f (by decide)] at e
                                 exact e)
                          · refine o_iconst (n := 150) rfl rfl ?_
                            refine o_goto (t := 154) rfl rfl ?_
                            refine o_iadd (n := 155) rfl rfl (by omega) ?_
                            refine o_istore_2 (n := 156) rfl rfl rfl ?_
                            refine o_iinc_4 (n := 159) rfl rfl rfl (by omega) ?_
                            refine o_goto (t := 9) rfl rfl ?_
                            first
                              | (exfalso; omega; done)
                              | (have hz : ld = 0 ∧ (97 ≤ g 21 0 k ∧ g 21 0 k ≤ 96 + g 8 0 5) ∧ v1 < 6 := by omega
                                 obtain ⟨hz, hl, h6⟩ := hz
                                 subst hz
                                 rw [cif_t rfl, fr_l ⟨hl, h6⟩]
                                 have e := ih (k + 1) (v1 + 1) (v2 + 0) 0 (vI (g 21 0 k)) (vI 1) (by omega) (by omega) (by omega) (by omega) (by omega) (by omega) (by omega) (by omega)
                                 rw [cif_t rfl] at e
                                 exact e)
                              | (have hz : ld = 1 ∧ (97 ≤ g 21 0 k ∧ g 21 0 k ≤ 96 + g 8 0 5) ∧ v2 < 6 := by omega
                                 obtain ⟨hz, hl, h6⟩ := hz
                                 subst hz
                                 rw [cif_f (by decide), fr_l ⟨hl, h6⟩]
                                 have e := ih (k + 1) (v1 + 0) (v2 + 1) 1 (vI (g 21 0 k)) (vI 1) (by omega) (by omega) (by omega) (by omega) (by omega) (by omega) (by omega) (by omega)
                                 rw [cif_f (by decide)] at e
                                 exact e)
                              | (have hz : ld = 0 ∧ ¬ (97 ≤ g 21 0 k ∧ g 21 0 k ≤ 96 + g 8 0 5) ∧ (g 21 0 k = 62 ∨ g 21 0 k = 61) ∧ 0 < v1 ∧ v2 = 0 := by omega
                                 obtain ⟨hz, hl, h6, h7, h8⟩ := hz
                                 subst hz
                                 subst h8
                                 rw [cif_t rfl, fr_a (fun z => hl z.1) ⟨h6, rfl, h7⟩]
                                 have e := ih (k + 1) (v1 + 0) (0 + 0) 1 (vI (g 21 0 k)) (vI 1) (by omega) (by omega) (by omega) (by omega) (by omega) (by omega) (by omega) (by omega)
                                 rw [cif_f (by decide)] at e
                                 exact e)
                      · refine o_iconst (n := 129) rfl rfl ?_
                        refine o_goto (t := 133) rfl rfl ?_
                        refine o_iadd (n := 134) rfl rfl (by omega) ?_
                        refine o_istore_1 (n := 135) rfl rfl rfl ?_
                        refine o_iload_n (n := 136) rfl rfl rfl ?_
                        refine o_aload_n (n := 137) rfl rfl rfl ?_
                        refine o_iload (n := 139) rfl rfl rfl ?_
                        refine o_invi (n := 142) rfl rfl rfl rfl rfl rfl rfl rfl rfl rfl (c8_isSign _ hs0 hs1) ?_
                        refine o_ifb_eq (n := 145) (t := 153) rfl rfl rfl (fun k142 => ?_) (fun k142 => ?_)
                        · refine o_iconst (n := 154) rfl rfl ?_
                          refine o_iadd (n := 155) rfl rfl (by omega) ?_
                          refine o_istore_2 (n := 156) rfl rfl rfl ?_
                          refine o_iinc_4 (n := 159) rfl rfl rfl (by omega) ?_
                          refine o_goto (t := 9) rfl rfl ?_
                          first
                            | (exfalso; omega; done)
                            | (have hz : ld = 0 ∧ (97 ≤ g 21 0 k ∧ g 21 0 k ≤ 96 + g 8 0 5) ∧ v1 < 6 := by omega
                               obtain ⟨hz, hl, h6⟩ := hz
                               subst hz
                               rw [cif_t rfl, fr_l ⟨hl, h6⟩]
                               have e := ih (k + 1) (v1 + 1) (v2 + 0) 0 (vI (g 21 0 k)) (vI 1) (by omega) (by omega) (by omega) (by omega) (by omega) (by omega) (by omega) (by omega)
                               rw [cif_t rfl] at e
                               exact e)
                            | (have hz : ld = 1 ∧ (97 ≤ g 21 0 k ∧ g 21 0 k ≤ 96 + g 8 0 5) ∧ v2 < 6 := by omega
                               obtain ⟨hz, hl, h6⟩ := hz
                               subst hz
                               rw [cif_f (by decide), fr_l ⟨hl, h6⟩]
                               have e := ih (k + 1) (v1 + 0) (v2 + 1) 1 (vI (g 21 0 k)) (vI 1) (by omega) (by omega) (by omega) (by omega) (by omega) (by omega) (by omega) (by omega)
                               rw [cif_f (by decide)] at e
                               exact e)
                            | (have hz : ld = 0 ∧ ¬ (97 ≤ g 21 0 k ∧ g 21 0 k ≤ 96 + g 8 0 5) ∧ (g 21 0 k = 62 ∨ g 21 0 k = 61) ∧ 0 < v1 ∧ v2 = 0 := by omega
                               obtain ⟨hz, hl, h6, h7, h8⟩ := hz
                               subst hz
                               subst h8
                               rw [cif_t rfl, fr_a (fun z => hl z.1) ⟨h6, rfl, h7⟩]
                               have e := ih (k + 1) (v1 + 0) (0 + 0) 1 (vI (g 21 0 k)) (vI 1) (by omega) (by omega) (by omega) (by omega) (by omega) (by omega) (by omega) (by omega)
                               rw [cif_f (by decide)] at e
                               exact e)
                        · refine o_iload_n (n := 146) rfl rfl rfl ?_
                          refine o_if_eq (n := 149) (t := 153) rfl rfl rfl (fun k146 => ?_) (fun k146 => ?_)
                          · refine o_iconst (n := 154) rfl rfl ?_
                            refine o_iadd (n := 155) rfl rfl (by omega) ?_
                            refine o_istore_2 (n := 156) rfl rfl rfl ?_
                            refine o_iinc_4 (n := 159) rfl rfl rfl (by omega) ?_
                            refine o_goto (t := 9) rfl rfl ?_
                            first
                              | (exfalso; omega; done)
                              | (have hz : ld = 0 ∧ (97 ≤ g 21 0 k ∧ g 21 0 k ≤ 96 + g 8 0 5) ∧ v1 < 6 := by omega
                                 obtain ⟨hz, hl, h6⟩ := hz
                                 subst hz
                                 rw [cif_t rfl, fr_l ⟨hl, h6⟩]
                                 have e := ih (k + 1) (v1 + 1) (v2 + 0) 0 (vI (g 21 0 k)) (vI 1) (by omega) (by omega) (by omega) (by omega) (by omega) (by omega) (by omega) (by omega)
                                 rw [cif_t rfl] at e
                                 exact e)
                              | (have hz : ld = 1 ∧ (97 ≤ g 21 0 k ∧ g 21 0 k ≤ 96 + g 8 0 5) ∧ v2 < 6 := by omega
                                 obtain ⟨hz, hl, h6⟩ := hz
                                 subst hz
                                 rw [cif_f (by decide), fr_l ⟨hl, h6⟩]
                                 have e := ih (k + 1) (v1 + 0) (v2 + 1) 1 (vI (g 21 0 k)) (vI 1) (by omega) (by omega) (by omega) (by omega) (by omega) (by omega) (by omega) (by omega)
                                 rw [cif_f (by decide)] at e
                                 exact e)
                              | (have hz : ld = 0 ∧ ¬ (97 ≤ g 21 0 k ∧ g 21 0 k ≤ 96 + g 8 0 5) ∧ (g 21 0 k = 62 ∨ g 21 0 k = 61) ∧ 0 < v1 ∧ v2 = 0 := by omega
                                 obtain ⟨hz, hl, h6, h7, h8⟩ := hz
                                 subst hz
                                 subst h8
                                 rw [cif_t rfl, fr_a (fun z => hl z.1) ⟨h6, rfl, h7⟩]
                                 have e := ih (k + 1) (v1 + 0) (0 + 0) 1 (vI (g 21 0 k)) (vI 1) (by omega) (by omega) (by omega) (by omega) (by omega) (by omega) (by omega) (by omega)
                                 rw [cif_f (by decide)] at e
                                 exact e)
                          · refine o_iconst (n := 150) rfl rfl ?_
                            refine o_goto (t := 154) rfl rfl ?_
                            refine o_iadd (n := 155) rfl rfl (by omega) ?_
                            refine o_istore_2 (n := 156) rfl rfl rfl ?_
                            refine o_iinc_4 (n := 159) rfl rfl rfl (by omega) ?_
                            refine o_goto (t := 9) rfl rfl ?_
                            first
                              | (exfalso; omega; done)
                              | (have hz : ld = 0 ∧ (97 ≤ g 21 0 k ∧ g 21 0 k ≤ 96 + g 8 0 5) ∧ v1 < 6 := by omega
                                 obtain ⟨hz, hl, h6⟩ := hz
                                 subst hz
                                 rw [cif_t rfl, fr_l ⟨hl, h6⟩]
                                 have e := ih (k + 1) (v1 + 1) (v2 + 0) 0 (vI (g 21 0 k)) (vI 1) (by omega) (by omega) (by omega) (by omega) (by omega) (by omega) (by omega) (by omega)
                                 rw [cif_t rfl] at e
                                 exact e)
                              | (have hz : ld = 1 ∧ (97 ≤ g 21 0 k ∧ g 21 0 k ≤ 96 + g 8 0 5) ∧ v2 < 6 := by omega
                                 obtain ⟨hz, hl, h6⟩ := hz
                                 subst hz
                                 rw [cif_f (by decide), fr_l ⟨hl, h6⟩]
                                 have e := ih (k + 1) (v1 + 0) (v2 + 1) 1 (vI (g 21 0 k)) (vI 1) (by omega) (by omega) (by omega) (by omega) (by omega) (by omega) (by omega) (by omega)
                                 rw [cif_f (by decide)] at e
                                 exact e)
                              | (have hz : ld = 0 ∧ ¬ (97 ≤ g 21 0 k ∧ g 21 0 k ≤ 96 + g 8 0 5) ∧ (g 21 0 k = 62 ∨ g 21 0 k = 61) ∧ 0 < v1 ∧ v2 = 0 := by omega
                                 obtain ⟨hz, hl, h6, h7, h8⟩ := hz
                                 subst hz
                                 subst h8
                                 rw [cif_t rfl, fr_a (fun z => hl z.1) ⟨h6, rfl, h7⟩]
                                 have e := ih (k + 1) (v1 + 0) (0 + 0) 1 (vI (g 21 0 k)) (vI 1) (by omega) (by omega) (by omega) (by omega) (by omega) (by omega) (by omega) (by omega)
                                 rw [cif_f (by decide)] at e
                                 exact e)
              · refine o_iload (n := 94) rfl rfl rfl ?_
                refine o_iret rfl rfl ?_
                first
                  | (exfalso; omega; done)
                  | (refine ⟨congrArg (fun z => some (vI z)) ?_, rfl, rfl⟩
                     by_cases hz : ld = 0
                     · rw [cif_t hz, fr_x (by omega) (by omega)]
                     · rw [cif_f hz, fr_x (by omega) (by omega)])
            · refine o_iconst (n := 81) rfl rfl ?_
              refine o_goto (t := 85) rfl rfl ?_
              refine o_istore_6 (n := 87) rfl rfl rfl ?_
              refine o_iload (n := 89) rfl rfl rfl ?_
              refine o_if_ne (n := 92) (t := 95) rfl rfl rfl (fun k89 => ?_) (fun k89 => ?_)
              · refine o_iload_n (n := 96) rfl rfl rfl ?_
                refine o_if_ne (n := 99) (t := 108) rfl rfl rfl (fun k96 => ?_) (fun k96 => ?_)
                · refine o_iconst (n := 109) rfl rfl ?_
                  refine o_goto (t := 113) rfl rfl ?_
                  refine o_istore_3 (n := 114) rfl rfl rfl ?_
                  refine o_iload_n (n := 115) rfl rfl rfl ?_
                  refine o_aload_n (n := 116) rfl rfl rfl ?_
                  refine o_iload (n := 118) rfl rfl rfl ?_
                  refine o_invi (n := 121) rfl rfl rfl rfl rfl rfl rfl rfl rfl rfl (c8_isSign _ hs0 hs1) ?_
                  refine o_ifb_eq (n := 124) (t := 132) rfl rfl rfl (fun k121 => ?_) (fun k121 => ?_)
                  · refine o_iconst (n := 133) rfl rfl ?_
                    refine o_iadd (n := 134) rfl rfl (by omega) ?_
                    refine o_istore_1 (n := 135) rfl rfl rfl ?_
                    refine o_iload_n (n := 136) rfl rfl rfl ?_
                    refine o_aload_n (n := 137) rfl rfl rfl ?_
                    refine o_iload (n := 139) rfl rfl rfl ?_
                    refine o_invi (n := 142) rfl rfl rfl rfl rfl rfl rfl rfl rfl rfl (c8_isSign _ hs0 hs1) ?_
                    refine o_ifb_eq (n := 145) (t := 153) rfl rfl rfl (fun k142 => ?_) (fun k142 => ?_)
                    · refine o_iconst (n := 154) rfl rfl ?_
                      refine o_iadd (n := 155) rfl rfl (by omega) ?_
                      refine o_istore_2 (n := 156) rfl rfl rfl ?_
                      refine o_iinc_4 (n := 159) rfl rfl rfl (by omega) ?_
                      refine o_goto (t := 9) rfl rfl ?_
                      first
                        | (exfalso; omega; done)
                        | (have hz : ld = 0 ∧ (97 ≤ g 21 0 k ∧ g 21 0 k ≤ 96 + g 8 0 5) ∧ v1 < 6 := by omega
                           obtain ⟨hz, hl, h6⟩ := hz
                           subst hz
                           rw [cif_t rfl, fr_l ⟨hl, h6⟩]
                           have e := ih (k + 1) (v1 + 1) (v2 + 0) 0 (vI (g 21 0 k)) (vI 1) (by omega) (by omega) (by omega) (by omega) (by omega) (by omega) (by omega) (by omega)
                           rw [cif_t rfl] at e
                           exact e)
                        | (have hz : ld = 1 ∧ (97 ≤ g 21 0 k ∧ g 21 0 k ≤ 96 + g 8 0 5) ∧ v2 < 6 := by omega
                           obtain ⟨hz, hl, h6⟩ := hz
                           subst hz
                           rw [cif_f (by decide), fr_l ⟨hl, h6⟩]
                           have e := ih (k + 1) (v1 + 0) (v2 + 1) 1 (vI (g 21 0 k)) (vI 1) (by omega) (by omega) (by omega) (by omega) (by omega) (by omega) (by omega) (by omega)
                           rw [cif_f (by decide)] at e
                           exact e)
                        | (have hz : ld = 0 ∧ ¬ (97 ≤ g 21 0 k ∧ g 21 0 k ≤ 96 + g 8 0 5) ∧ (g 21 0 k = 62 ∨ g 21 0 k = 61) ∧ 0 < v1 ∧ v2 = 0 := by omega
                           obtain ⟨hz, hl, h6, h7, h8⟩ := hz
                           subst hz
                           subst h8
                           rw [cif_t rfl, fr_a (fun z => hl z.1) ⟨h6, rfl, h7⟩]
                           have e := ih (k + 1) (v1 + 0) (0 + 0) 1 (vI (g 21 0 k)) (vI 1) (by omega) (by omega) (by omega) (by omega) (by omega) (by omega) (by omega) (by omega)
                           rw [cif_f (by decide)] at e
                           exact e)
                    · refine o_iload_n (n := 146) rfl rfl rfl ?_
                      refine o_if_eq (n := 149) (t := 153) rfl rfl rfl (fun k146 => ?_) (fun k146 => ?_)
                      · refine o_iconst (n := 154) rfl rfl ?_
                        refine o_iadd (n := 155) rfl rfl (by omega) ?_
                        refine o_istore_2 (n := 156) rfl rfl rfl ?_
                        refine o_iinc_4 (n := 159) rfl rfl rfl (by omega) ?_
                        refine o_goto (t := 9) rfl rfl ?_
                        first
                          | (exfalso; omega; done)
                          | (have hz : ld = 0 ∧ (97 ≤ g 21 0 k ∧ g 21 0 k ≤ 96 + g 8 0 5) ∧ v1 < 6 := by omega
                             obtain ⟨hz, hl, h6⟩ := hz
                             subst hz
                             rw [cif_t rfl, fr_l ⟨hl, h6⟩]
                             have e := ih (k + 1) (v1 + 1) (v2 + 0) 0 (vI (g 21 0 k)) (vI 1) (by omega) (by omega) (by omega) (by omega) (by omega) (by omega) (by omega) (by omega)
                             rw [cif_t rfl] at e
                             exact e)
                          | (have hz : ld = 1 ∧ (97 ≤ g 21 0 k ∧ g 21 0 k ≤ 96 + g 8 0 5) ∧ v2 < 6 := by omega
                             obtain ⟨hz, hl, h6⟩ := hz
                             subst hz
                             rw [cif_f (by decide), fr_l ⟨hl, h6⟩]
                             have e := ih (k + 1) (v1 + 0) (v2 + 1) 1 (vI (g 21 0 k)) (vI 1) (by omega) (by omega) (by omega) (by omega) (by omega) (by omega) (by omega) (by omega)
                             rw [cif_f (by decide)] at e
                             exact e)
                          | (have hz : ld = 0 ∧ ¬ (97 ≤ g 21 0 k ∧ g 21 0 k ≤ 96 + g 8 0 5) ∧ (g 21 0 k = 62 ∨ g 21 0 k = 61) ∧ 0 < v1 ∧ v2 = 0 := by omega
                             obtain ⟨hz, hl, h6, h7, h8⟩ := hz
                             subst hz
                             subst h8
                             rw [cif_t rfl, fr_a (fun z => hl z.1) ⟨h6, rfl, h7⟩]
                             have e := ih (k + 1) (v1 + 0) (0 + 0) 1 (vI (g 21 0 k)) (vI 1) (by omega) (by omega) (by omega) (by omega) (by omega) (by omega) (by omega) (by omega)
                             rw [cif_f (by decide)] at e
                             exact e)
                      · refine o_iconst (n := 150) rfl rfl ?_
                        refine o_goto (t := 154) rfl rfl ?_
                        refine o_iadd (n := 155) rfl rfl (by omega) ?_
                        refine o_istore_2 (n := 156) rfl rfl rfl ?_
                        refine o_iinc_4 (n := 159) rfl rfl rfl (by omega) ?_
                        refine o_goto (t := 9) rfl rfl ?_
                        first
                          | (exfalso; omega; done)
                          | (have hz : ld = 0 ∧ (97 ≤ g 21 0 k ∧ g 21 0 k ≤ 96 + g 8 0 5) ∧ v1 < 6 := by omega
                             obtain ⟨hz, hl, h6⟩ := hz
                             subst hz
                             rw [cif_t rfl, fr_l ⟨hl, h6⟩]
                             have e := ih (k + 1) (v1 + 1) (v2 + 0) 0 (vI (g 21 0 k)) (vI 1) (by omega) (by omega) (by omega) (by omega) (by omega) (by omega) (by omega) (by omega)
                             rw [cif_t rfl] at e
                             exact e)
                          | (have hz : ld = 1 ∧ (97 ≤ g 21 0 k ∧ g 21 0 k ≤ 96 + g 8 0 5) ∧ v2 < 6 := by omega
                             obtain ⟨hz, hl, h6⟩ := hz
                             subst hz
                             rw [cif_f (by decide), fr_l ⟨hl, h6⟩]
                             have e := ih (k + 1) (v1 + 0) (v2 + 1) 1 (vI (g 21 0 k)) (vI 1) (by omega) (by omega) (by omega) (by omega) (by omega) (by omega) (by omega) (by omega)
                             rw [cif_f (by decide)] at e
                             exact e)
                          | (have hz : ld = 0 ∧ ¬ (97 ≤ g 21 0 k ∧ g 21 0 k ≤ 96 + g 8 0 5) ∧ (g 21 0 k = 62 ∨ g 21 0 k = 61) ∧ 0 < v1 ∧ v2 = 0 := by omega
                             obtain ⟨hz, hl, h6, h7, h8⟩ := hz
                             subst hz
                             subst h8
                             rw [cif_t rfl, fr_a (fun z => hl z.1) ⟨h6, rfl, h7⟩]
                             have e := ih (k + 1) (v1 + 0) (0 + 0) 1 (vI (g 21 0 k)) (vI 1) (by omega) (by omega) (by omega) (by omega) (by omega) (by omega) (by omega) (by omega)
                             rw [cif_f (by decide)] at e
                             exact e)
                  · refine o_iload_n (n := 125) rfl rfl rfl ?_
                    refine o_if_ne (n := 128) (t := 132) rfl rfl rfl (fun k125 => ?_) (fun k125 => ?_)
                    · refine o_iconst (n := 133) rfl rfl ?_
                      refine o_iadd (n := 134) rfl rfl (by omega) ?_
                      refine o_istore_1 (n := 135) rfl rfl rfl ?_
                      refine o_iload_n (n := 136) rfl rfl rfl ?_
                      refine o_aload_n (n := 137) rfl rfl rfl ?_
                      refine o_iload (n := 139) rfl rfl rfl ?_
                      refine o_invi (n := 142) rfl rfl rfl rfl rfl rfl rfl rfl rfl rfl (c8_isSign _ hs0 hs1) ?_
                      refine o_ifb_eq (n := 145) (t := 153) rfl rfl rfl (fun k142 => ?_) (fun k142 => ?_)
                      · refine o_iconst (n := 154) rfl rfl ?_
                        refine o_iadd (n := 155) rfl rfl (by omega) ?_
                        refine o_istore_2 (n := 156) rfl rfl rfl ?_
                        refine o_iinc_4 (n := 159) rfl rfl rfl (by omega) ?_
                        refine o_goto (t := 9) rfl rfl ?_
                        first
                          | (exfalso; omega; done)
                          | (have hz : ld = 0 ∧ (97 ≤ g 21 0 k ∧ g 21 0 k ≤ 96 + g 8 0 5) ∧ v1 < 6 := by omega
                             obtain ⟨hz, hl, h6⟩ := hz
                             subst hz
                             rw [cif_t rfl, fr_l ⟨hl, h6⟩]
                             have e := ih (k + 1) (v1 + 1) (v2 + 0) 0 (vI (g 21 0 k)) (vI 1) (by omega) (by omega) (by omega) (by omega) (by omega) (by omega) (by omega) (by omega)
                             rw [cif_t rfl] at e
                             exact e)
                          | (have hz : ld = 1 ∧ (97 ≤ g 21 0 k ∧ g 21 0 k ≤ 96 + g 8 0 5) ∧ v2 < 6 := by omega
                             obtain ⟨hz, hl, h6⟩ := hz
                             subst hz
                             rw [cif_f (by decide), fr_l ⟨hl, h6⟩]
                             have e := ih (k + 1) (v1 + 0) (v2 + 1) 1 (vI (g 21 0 k)) (vI 1) (by omega) (by omega) (by omega) (by omega) (by omega) (by omega) (by omega) (by omega)
                             rw [cif_f (by decide)] at e
                             exact e)
                          | (have hz : ld = 0 ∧ ¬ (97 ≤ g 21 0 k ∧ g 21 0 k ≤ 96 + g 8 0 5) ∧ (g 21 0 k = 62 ∨ g 21 0 k = 61) ∧ 0 < v1 ∧ v2 = 0 := by omega
                             obtain ⟨hz, hl, h6, h7, h8⟩ := hz
                             subst hz
                             subst h8
                             rw [cif_t rfl, fr_a (fun z => hl z.1) ⟨h6, rfl, h7⟩]
                             have e := ih (k + 1) (v1 + 0) (0 + 0) 1 (vI (g 21 0 k)) (vI 1) (by omega) (by omega) (by omega) (by omega) (by omega) (by omega) (by omega) (by omega)
                             rw [cif_f (by decide)] at e
                             exact e)
                      · refine o_iload_n (n := 146) rfl rfl rfl ?_
                        refine o_if_eq (n := 149) (t := 153) rfl rfl rfl (fun k146 => ?_) (fun k146 => ?_)
                        · refine o_iconst (n := 154) rfl rfl ?_
                          refine o_iadd (n := 155) rfl rfl (by omega) ?_
                          refine o_istore_2 (n := 156) rfl rfl rfl ?_
                          refine o_iinc_4 (n := 159) rfl rfl rfl (by omega) ?_
                          refine o_goto (t := 9) rfl rfl ?_
                          first
                            | (exfalso; omega; done)
                            | (have hz : ld = 0 ∧ (97 ≤ g 21 0 k ∧ g 21 0 k ≤ 96 + g 8 0 5) ∧ v1 < 6 := by omega
                               obtain ⟨hz, hl, h6⟩ := hz
                               subst hz
                               rw [cif_t rfl, fr_l ⟨hl, h6⟩]
                               have e := ih (k + 1) (v1 + 1) (v2 + 0) 0 (vI (g 21 0 k)) (vI 1) (by omega) (by omega) (by omega) (by omega) (by omega) (by omega) (by omega) (by omega)
                               rw [cif_t rfl] at e
                               exact e)
                            | (have hz : ld = 1 ∧ (97 ≤ g 21 0 k ∧ g 21 0 k ≤ 96 + g 8 0 5) ∧ v2 < 6 := by omega
                               obtain ⟨hz, hl, h6⟩ := hz
                               subst hz
                               rw [cif_f (by decide), fr_l ⟨hl, h6⟩]
                               have e := ih (k + 1) (v1 + 0) (v2 + 1) 1 (vI (g 21 0 k)) (vI 1) (by omega) (by omega) (by omega) (by omega) (by omega) (by omega) (by omega) (by omega)
                               rw [cif_f (by decide)] at e
                               exact e)
                            | (have hz : ld = 0 ∧ ¬ (97 ≤ g 21 0 k ∧ g 21 0 k ≤ 96 + g 8 0 5) ∧ (g 21 0 k = 62 ∨ g 21 0 k = 61) ∧ 0 < v1 ∧ v2 = 0 := by omega
                               obtain ⟨hz, hl, h6, h7, h8⟩ := hz
                               subst hz
                               subst h8
                               rw [cif_t rfl, fr_a (fun z => hl z.1) ⟨h6, rfl, h7⟩]
                               have e := ih (k + 1) (v1 + 0) (0 + 0) 1 (vI (g 21 0 k)) (vI 1) (by omega) (by omega) (by omega) (by omega) (by omega) (by omega) (by omega) (by omega)
                               rw [cif_f (by decide)] at e
                               exact e)
                        · refine o_iconst (n := 150) rfl rfl ?_
                          refine o_goto (t := 154) rfl rfl ?_
                          refine o_iadd (n := 155) rfl rfl (by omega) ?_
                          refine o_istore_2 (n := 156) rfl rfl rfl ?_
                          refine o_iinc_4 (n := 159) rfl rfl rfl (by omega) ?_
                          refine o_goto (t := 9) rfl rfl ?_
                          first
                            | (exfalso; omega; done)
                            | (have hz : ld = 0 ∧ (97 ≤ g 21 0 k ∧ g 21 0 k ≤ 96 + g 8 0 5) ∧ v1 < 6 := by omega
                               obtain ⟨hz, hl, h6⟩ := hz
                               subst hz
                               rw [cif_t rfl, fr_l ⟨hl, h6⟩]
                               have e := ih (k + 1) (v1 + 1) (v2 + 0) 0 (vI (g 21 0 k)) (vI 1) (by omega) (by omega) (by omega) (by omega) (by omega) (by omega) (by omega) (by omega)
                               rw [cif_t rfl] at e
                               exact e)
                            | (have hz : ld = 1 ∧ (97 ≤ g 21 0 k ∧ g 21 0 k ≤ 96 + g 8 0 5) ∧ v2 < 6 := by omega
                               obtain ⟨hz, hl, h6⟩ := hz
                               subst hz
                               rw [cif_f (by decide), fr_l ⟨hl, h6⟩]
                               have e := ih (k + 1) (v1 + 0) (v2 + 1) 1 (vI (g 21 0 k)) (vI 1) (by omega) (by omega) (by omega) (by omega) (by omega) (by omega) (by omega) (by omega)
                               rw [cif_f (by decide)] at e
                               exact e)
                            | (have hz : ld = 0 ∧ ¬ (97 ≤ g 21 0 k ∧ g 21 0 k ≤ 96 + g 8 0 5) ∧ (g 21 0 k = 62 ∨ g 21 0 k = 61) ∧ 0 < v1 ∧ v2 = 0 := by omega
                               obtain ⟨hz, hl, h6, h7, h8⟩ := hz
                               subst hz
                               subst h8
                               rw [cif_t rfl, fr_a (fun z => hl z.1) ⟨h6, rfl, h7⟩]
                               have e := ih (k + 1) (v1 + 0) (0 + 0) 1 (vI (g 21 0 k)) (vI 1) (by omega) (by omega) (by omega) (by omega) (by omega) (by omega) (by omega) (by omega)
                               rw [cif_f (by decide)] at e
                               exact e)
                    · refine o_iconst (n := 129) rfl rfl ?_
                      refine o_goto (t := 133) rfl rfl ?_
                      refine o_iadd (n := 134) rfl rfl (by omega) ?_
                      refine o_istore_1 (n := 135) rfl rfl rfl ?_
                      refine o_iload_n (n := 136) rfl rfl rfl ?_
                      refine o_aload_n (n := 137) rfl rfl rfl ?_
                      refine o_iload (n := 139) rfl rfl rfl ?_
                      refine o_invi (n := 142) rfl rfl rfl rfl rfl rfl rfl rfl rfl rfl (c8_isSign _ hs0 hs1) ?_
                      refine o_ifb_eq (n := 145) (t := 153) rfl rfl rfl (fun k142 => ?_) (fun k142 => ?_)
                      · refine o_iconst (n := 154) rfl rfl ?_
                        refine o_iadd (n := 155) rfl rfl (by omega) ?_
                        refine o_istore_2 (n := 156) rfl rfl rfl ?_
                        refine o_iinc_4 (n := 159) rfl rfl rfl (by omega) ?_
                        refine o_goto (t := 9) rfl rfl ?_
                        first
                          | (exfalso; omega; done)
                          | (have hz : ld = 0 ∧ (97 ≤ g 21 0 k ∧ g 21 0 k ≤ 96 + g 8 0 5) ∧ v1 < 6 := by omega
                             obtain ⟨hz, hl, h6⟩ := hz
                             subst hz
                             rw [cif_t rfl, fr_l ⟨hl, h6⟩]
                             have e := ih (k + 1) (v1 + 1) (v2 + 0) 0 (vI (g 21 0 k)) (vI 1) (by omega) (by omega) (by omega) (by omega) (by omega) (by omega) (by omega) (by omega)
                             rw [cif_t rfl] at e
                             exact e)
                          | (have hz : ld = 1 ∧ (97 ≤ g 21 0 k ∧ g 21 0 k ≤ 96 + g 8 0 5) ∧ v2 < 6 := by omega
                             obtain ⟨hz, hl, h6⟩ := hz
                             subst hz
                             rw [cif_f (by decide), fr_l ⟨hl, h6⟩]
                             have e := ih (k + 1) (v1 + 0) (v2 + 1) 1 (vI (g 21 0 k)) (vI 1) (by omega) (by omega) (by omega) (by omega) (by omega) (by omega) (by omega) (by omega)
                             rw [cif_f (by decide)] at e
                             exact e)
                          | (have hz : ld = 0 ∧ ¬ (97 ≤ g 21 0 k ∧ g 21 0 k ≤ 96 + g 8 0 5) ∧ (g 21 0 k = 62 ∨ g 21 0 k = 61) ∧ 0 < v1 ∧ v2 = 0 := by omega
                             obtain ⟨hz, hl, h6, h7, h8⟩ := hz
                             subst hz
                             subst h8
                             rw [cif_t rfl, fr_a (fun z => hl z.1) ⟨h6, rfl, h7⟩]
                             have e := ih (k + 1) (v1 + 0) (0 + 0) 1 (vI (g 21 0 k)) (vI 1) (by omega) (by omega) (by omega) (by omega) (by omega) (by omega) (by omega) (by omega)
                             rw [cif_f (by decide)] at e
                             exact e)
                      · refine o_iload_n (n := 146) rfl rfl rfl ?_
                        refine o_if_eq (n := 149) (t := 153) rfl rfl rfl (fun k146 => ?_) (fun k146 => ?_)
                        · refine o_iconst (n := 154) rfl rfl ?_
                          refine o_iadd (n := 155) rfl rfl (by omega) ?_
                          refine o_istore_2 (n := 156) rfl rfl rfl ?_
                          refine o_iinc_4 (n := 159) rfl rfl rfl (by omega) ?_
                          refine o_goto (t := 9) rfl rfl ?_
                          first
                            | (exfalso; omega; done)
                            | (have hz : ld = 0 ∧ (97 ≤ g 21 0 k ∧ g 21 0 k ≤ 96 + g 8 0 5) ∧ v1 < 6 := by omega
                               obtain ⟨hz, hl, h6⟩ := hz
                               subst hz
                               rw [cif_t rfl, fr_l ⟨hl, h6⟩]
                               have e := ih (k + 1) (v1 + 1) (v2 + 0) 0 (vI (g 21 0 k)) (vI 1) (by omega) (by omega) (by omega) (by omega) (by omega) (by omega) (by omega) (by omega)
                               rw [cif_t rfl] at e
                               exact e)
                            | (have hz : ld = 1 ∧ (97 ≤ g 21 0 k ∧ g 21 0 k ≤ 96 + g 8 0 5) ∧ v2 < 6 := by omega
                               obtain ⟨hz, hl, h6⟩ := hz
                               subst hz
                               rw [cif_f (by decide), fr_l ⟨hl, h6⟩]
                               have e := ih (k + 1) (v1 + 0) (v2 + 1) 1 (vI (g 21 0 k)) (vI 1) (by omega) (by omega) (by omega) (by omega) (by omega) (by omega) (by omega) (by omega)
                               rw [cif_f (by decide)] at e
                               exact e)
                            | (have hz : ld = 0 ∧ ¬ (97 ≤ g 21 0 k ∧ g 21 0 k ≤ 96 + g 8 0 5) ∧ (g 21 0 k = 62 ∨ g 21 0 k = 61) ∧ 0 < v1 ∧ v2 = 0 := by omega
                               obtain ⟨hz, hl, h6, h7, h8⟩ := hz
                               subst hz
                               subst h8
                               rw [cif_t rfl, fr_a (fun z => hl z.1) ⟨h6, rfl, h7⟩]
                               have e := ih (k + 1) (v1 + 0) (0 + 0) 1 (vI (g 21 0 k)) (vI 1) (by omega) (by omega) (by omega) (by omega) (by omega) (by omega) (by omega) (by omega)
                               rw [cif_f (by decide)] at e
                               exact e)
                        · refine o_iconst (n := 150) rfl rfl ?_
                          refine o_goto (t := 154) rfl rfl ?_
                          refine o_iadd (n := 155) rfl rfl (by omega) ?_
                          refine o_istore_2 (n := 156) rfl rfl rfl ?_
                          refine o_iinc_4 (n := 159) rfl rfl rfl (by omega) ?_
                          refine o_goto (t := 9) rfl rfl ?_
                          first
                            | (exfalso; omega; done)
                            | (have hz : ld = 0 ∧ (97 ≤ g 21 0 k ∧ g 21 0 k ≤ 96 + g 8 0 5) ∧ v1 < 6 := by omega
                               obtain ⟨hz, hl, h6⟩ := hz
                               subst hz
                               rw [cif_t rfl, fr_l ⟨hl, h6⟩]
                               have e := ih (k + 1) (v1 + 1) (v2 + 0) 0 (vI (g 21 0 k)) (vI 1) (by omega) (by omega) (by omega) (by omega) (by omega) (by omega) (by omega) (by omega)
                               rw [cif_t rfl] at e
                               exact e)
                            | (have hz : ld = 1 ∧ (97 ≤ g 21 0 k ∧ g 21 0 k ≤ 96 + g 8 0 5) ∧ v2 < 6 := by omega
                               obtain ⟨hz, hl, h6⟩ := hz
                               subst hz
                               rw [cif_f (by decide), fr_l ⟨hl, h6⟩]
                               have e := ih (k + 1) (v1 + 0) (v2 + 1) 1 (vI (g 21 0 k)) (vI 1) (by omega) (by omega) (by omega) (by omega) (by omega) (by omega) (by omega) (by omega)
                               rw [cif_f (by decide)] at e
                               exact e)
                            | (have hz : ld = 0 ∧ ¬ (97 ≤ g 21 0 k ∧ g 21 0 k ≤ 96 + g 8 0 5) ∧ (g 21 0 k = 62 ∨ g 21 0 k = 61) ∧ 0 < v1 ∧ v2 = 0 := by omega
                               obtain ⟨hz, hl, h6, h7, h8⟩ := hz
                               subst hz
                               subst h8
                               rw [cif_t rfl, fr_a (fun z => hl z.1) ⟨h6, rfl, h7⟩]
                               have e := ih (k + 1) (v1 + 0) (0 + 0) 1 (vI (g 21 0 k)) (vI 1) (by omega) (by omega) (by omega) (by omega) (by omega) (by omega) (by omega) (by omega)
                               rw [cif_f (by decide)] at e
                               exact e)
                · refine o_aload_n (n := 100) rfl rfl rfl ?_
                  refine o_iload (n := 102) rfl rfl rfl ?_
                  refine o_invi (n := 105) rfl rfl rfl rfl rfl rfl rfl rfl rfl rfl (c8_isSign _ hs0 hs1) ?_
                  refine o_ifb_ne (n := 108) (t := 112) rfl rfl rfl (fun k105 => ?_) (fun k105 => ?_)
                  · refine o_iconst (n := 113) rfl rfl ?_
                    refine o_istore_3 (n := 114) rfl rfl rfl ?_
                    refine o_iload_n (n := 115) rfl rfl rfl ?_
                    refine o_aload_n (n := 116) rfl rfl rfl ?_
                    refine o_iload (n := 118) rfl rfl rfl ?_
                    refine o_invi (n := 121) rfl rfl rfl rfl rfl rfl rfl rfl rfl rfl (c8_isSign _ hs0 hs1) ?_
                    refine o_ifb_eq (n := 124) (t := 132) rfl rfl rfl (fun k121 => ?_) (fun k121 => ?_)
                    · refine o_iconst (n := 133) rfl rfl ?_
                      refine o_iadd (n := 134) rfl rfl (by omega) ?_
                      refine o_istore_1 (n := 135) rfl rfl rfl ?_
                      refine o_iload_n (n := 136) rfl rfl rfl ?_
                      refine o_aload_n (n := 137) rfl rfl rfl ?_
                      refine o_iload (n := 139) rfl rfl rfl ?_
                      refine o_invi (n := 142) rfl rfl rfl rfl rfl rfl rfl rfl rfl rfl (c8_isSign _ hs0 hs1) ?_
                      refine o_ifb_eq (n := 145) (t := 153) rfl rfl rfl (fun k142 => ?_) (fun k142 => ?_)
                      · refine o_iconst (n := 154) rfl rfl ?_
                        refine o_iadd (n := 155) rfl rfl (by omega) ?_
                        refine o_istore_2 (n := 156) rfl rfl rfl ?_
                        refine o_iinc_4 (n := 159) rfl rfl rfl (by omega) ?_
                        refine o_goto (t := 9) rfl rfl ?_
                        first
                          | (exfalso; omega; done)
                          | (have hz : ld = 0 ∧ (97 ≤ g 21 0 k ∧ g 21 0 k ≤ 96 + g 8 0 5) ∧ v1 < 6 := by omega
                             obtain ⟨hz, hl, h6⟩ := hz
                             subst hz
                             rw [cif_t rfl, fr_l ⟨hl, h6⟩]
                             have e := ih (k + 1) (v1 + 1) (v2 + 0) 0 (vI (g 21 0 k)) (vI 1) (by omega) (by omega) (by omega) (by omega) (by omega) (by omega) (by omega) (by omega)
                             rw [cif_t rfl] at e
                             exact e)
                          | (have hz : ld = 1 ∧ (97 ≤ g 21 0 k ∧ g 21 0 k ≤ 96 + g 8 0 5) ∧ v2 < 6 := by omega
                             obtain ⟨hz, hl, h6⟩ := hz
                             subst hz
                             rw [cif_f (by decide), fr_l ⟨hl, h6⟩]
                             have e := ih (k + 1) (v1 + 0) (v2 + 1) 1 (vI (g 21 0 k)) (vI 1) (by omega) (by omega) (by omega) (by omega) (by omega) (by omega) (by omega) (by omega)
                             rw [cif_f (by decide)] at e
                             exact e)
                          | (have hz : ld = 0 ∧ ¬ (97 ≤ g 21 0 k ∧ g 21 0 k ≤ 96 + g 8 0 5) ∧ (g 21 0 k = 62 ∨ g 21 0 k = 61) ∧ 0 < v1 ∧ v2 = 0 := by omega
                             obtain ⟨hz, hl, h6, h7, h8⟩ := hz
                             subst hz
                             subst h8
                             rw [cif_t rfl, fr_a (fun z => hl z.1) ⟨h6, rfl, h7⟩]
                             have e := ih (k + 1) (v1 + 0) (0 + 0) 1 (vI (g 21 0 k)) (vI 1) (by omega) (by omega) (by omega) (by omega) (by omega) (by omega) (by omega) (by omega)
                             rw [cif_f (by decide)] at e
                             exact e)
                      · refine o_iload_n (n := 146) rfl rfl rfl ?_
                        refine o_if_eq (n := 149) (t := 153) rfl rfl rfl (fun k146 => ?_) (fun k146 => ?_)
                        · refine o_iconst (n := 154) rfl rfl ?_
                          refine o_iadd (n := 155) rfl rfl (by omega) ?_
                          refine o_istore_2 (n := 156) rfl rfl rfl ?_
                          refine o_iinc_4 (n := 159) rfl rfl rfl (by omega) ?_
                          refine o_goto (t := 9) rfl rfl ?_
                          first
                            | (exfalso; omega; done)
                            | (have hz : ld = 0 ∧ (97 ≤ g 21 0 k ∧ g 21 0 k ≤ 96 + g 8 0 5) ∧ v1 < 6 := by omega
                               obtain ⟨hz, hl, h6⟩ := hz
                               subst hz
                               rw [cif_t rfl, fr_l ⟨hl, h6⟩]
                               have e := ih (k + 1) (v1 + 1) (v2 + 0) 0 (vI (g 21 0 k)) (vI 1) (by omega) (by omega) (by omega) (by omega) (by omega) (by omega) (by omega) (by omega)
                               rw [cif_t rfl] at e
                               exact e)
                            | (have hz : ld = 1 ∧ (97 ≤ g 21 0 k ∧ g 21 0 k ≤ 96 + g 8 0 5) ∧ v2 < 6 := by omega
                               obtain ⟨hz, hl, h6⟩ := hz
                               subst hz
                               rw [cif_f (by decide), fr_l ⟨hl, h6⟩]
                               have e := ih (k + 1) (v1 + 0) (v2 + 1) 1 (vI (g 21 0 k)) (vI 1) (by omega) (by omega) (by omega) (by omega) (by omega) (by omega) (by omega) (by omega)
                               rw [cif_f (by decide)] at e
                               exact e)
                            | (have hz : ld = 0 ∧ ¬ (97 ≤ g 21 0 k ∧ g 21 0 k ≤ 96 + g 8 0 5) ∧ (g 21 0 k = 62 ∨ g 21 0 k = 61) ∧ 0 < v1 ∧ v2 = 0 := by omega
                               obtain ⟨hz, hl, h6, h7, h8⟩ := hz
                               subst hz
                               subst h8
                               rw [cif_t rfl, fr_a (fun z => hl z.1) ⟨h6, rfl, h7⟩]
                               have e := ih (k + 1) (v1 + 0) (0 + 0) 1 (vI (g 21 0 k)) (vI 1) (by omega) (by omega) (by omega) (by omega) (by omega) (by omega) (by omega) (by omega)
                               rw [cif_f (by decide)] at e
                               exact e)
                        · refine o_iconst (n := 150) rfl rfl ?_
                          refine o_goto (t := 154) rfl rfl ?_
                          refine o_iadd (n := 155) rfl rfl (by omega) ?_
                          refine o_istore_2 (n := 156) rfl rfl rfl ?_
                          refine o_iinc_4 (n := 159) rfl rfl rfl (by omega) ?_
                          refine o_goto (t := 9) rfl rfl ?_
                          first
                            | (exfalso; omega; done)
                            | (have hz : ld = 0 ∧ (97 ≤ g 21 0 k ∧ g 21 0 k ≤ 96 + g 8 0 5) ∧ v1 < 6 := by omega
                               obtain ⟨hz, hl, h6⟩ := hz
                               subst hz
                               rw [cif_t rfl, fr_l ⟨hl, h6⟩]
                               have e := ih (k + 1) (v1 + 1) (v2 + 0) 0 (vI (g 21 0 k)) (vI 1) (by omega) (by omega) (by omega) (by omega) (by omega) (by omega) (by omega) (by omega)
                               rw [cif_t rfl] at e
                               exact e)
                            | (have hz : ld = 1 ∧ (97 ≤ g 21 0 k ∧ g 21 0 k ≤ 96 + g 8 0 5) ∧ v2 < 6 := by omega
                               obtain ⟨hz, hl, h6⟩ := hz
                               subst hz
                               rw [cif_f (by decide), fr_l ⟨hl, h6⟩]
                               have e := ih (k + 1) (v1 + 0) (v2 + 1) 1 (vI (g 21 0 k)) (vI 1) (by omega) (by omega) (by omega) (by omega) (by omega) (by omega) (by omega) (by omega)
                               rw [cif_f (by decide)] at e
                               exact e)
                            | (have hz : ld = 0 ∧ ¬ (97 ≤ g 21 0 k ∧ g 21 0 k ≤ 96 + g 8 0 5) ∧ (g 21 0 k = 62 ∨ g 21 0 k = 61) ∧ 0 < v1 ∧ v2 = 0 := by omega
                               obtain ⟨hz, hl, h6, h7, h8⟩ := hz
                               subst hz
                               subst h8
                               rw [cif_t rfl, fr_a (fun z => hl z.1) ⟨h6, rfl, h7⟩]
                               have e := ih (k + 1) (v1 + 0) (0 + 0) 1 (vI (g 21 0 k)) (vI 1) (by omega) (by omega) (by omega) (by omega) (by omega) (by omega) (by omega) (by omega)
                               rw [cif_f (by decide)] at e
                               exact e)
                    · refine o_iload_n (n := 125) rfl rfl rfl ?_
                      refine o_if_ne (n := 128) (t := 132) rfl rfl rfl (fun k125 => ?_) (fun k125 => ?_)
                      · refine o_iconst (n := 133) rfl rfl ?_
                        refine o_iadd (n := 134) rfl rfl (by omega) ?_
                        refine o_istore_1 (n := 135) rfl rfl rfl ?_
                        refine o_iload_n (n := 136) rfl rfl rfl ?_
                        refine o_aload_n (n := 137) rfl rfl rfl ?_
                        refine o_iload (n := 139) rfl rfl rfl ?_
                        refine o_invi (n := 142) rfl rfl rfl rfl rfl rfl rfl rfl rfl rfl (c8_isSign _ hs0 hs1) ?_
                        refine o_ifb_eq (n := 145) (t := 153) rfl rfl rfl (fun k142 => ?_) (fun k142 => ?_)
                        · refine o_iconst (n := 154) rfl rfl ?_
                          refine o_iadd (n := 155) rfl rfl (by omega) ?_
                          refine o_istore_2 (n := 156) rfl rfl rfl ?_
                          refine o_iinc_4 (n := 159) rfl rfl rfl (by omega) ?_
                          refine o_goto (t := 9) rfl rfl ?_
                          first
                            | (exfalso; omega; done)
                            | (have hz : ld = 0 ∧ (97 ≤ g 21 0 k ∧ g 21 0 k ≤ 96 + g 8 0 5) ∧ v1 < 6 := by omega
                               obtain ⟨hz, hl, h6⟩ := hz
                               subst hz
                               rw [cif_t rfl, fr_l ⟨hl, h6⟩]
                               have e := ih (k + 1) (v1 + 1) (v2 + 0) 0 (vI (g 21 0 k)) (vI 1) (by omega) (by omega) (by omega) (by omega) (by omega) (by omega) (by omega) (by omega)
                               rw [cif_t rfl] at e
                               exact e)
                            | (have hz : ld = 1 ∧ (97 ≤ g 21 0 k ∧ g 21 0 k ≤ 96 + g 8 0 5) ∧ v2 < 6 := by omega
                               obtain ⟨hz, hl, h6⟩ := hz
                               subst hz
                               rw [cif_f (by decide), fr_l ⟨hl, h6⟩]
                               have e := ih (k + 1) (v1 + 0) (v2 + 1) 1 (vI (g 21 0 k)) (vI 1) (by omega) (by omega) (by omega) (by omega) (by omega) (by omega) (by omega) (by omega)
                               rw [cif_f (by decide)] at e
                               exact e)
                            | (have hz : ld = 0 ∧ ¬ (97 ≤ g 21 0 k ∧ g 21 0 k ≤ 96 + g 8 0 5) ∧ (g 21 0 k = 62 ∨ g 21 0 k = 61) ∧ 0 < v1 ∧ v2 = 0 := by omega
                               obtain ⟨hz, hl, h6, h7, h8⟩ := hz
                               subst hz
                               subst h8
                               rw [cif_t rfl, fr_a (fun z => hl z.1) ⟨h6, rfl, h7⟩]
                               have e := ih (k + 1) (v1 + 0) (0 + 0) 1 (vI (g 21 0 k)) (vI 1) (by omega) (by omega) (by omega) (by omega) (by omega) (by omega) (by omega) (by omega)
                               rw [cif_f (by decide)] at e
                               exact e)
                        · refine o_iload_n (n := 146) rfl rfl rfl ?_
                          refine o_if_eq (n := 149) (t := 153) rfl rfl rfl (fun k146 => ?_) (fun k146 => ?_)
                          · refine o_iconst (n := 154) rfl rfl ?_
                            refine o_iadd (n := 155) rfl rfl (by omega) ?_
                            refine o_istore_2 (n := 156) rfl rfl rfl ?_
                            refine o_iinc_4 (n := 159) rfl rfl rfl (by omega) ?_
                            refine o_goto (t := 9) rfl rfl ?_
                            first
                              | (exfalso; omega; done)
                              | (have hz : ld = 0 ∧ (97 ≤ g 21 0 k ∧ g 21 0 k ≤ 96 + g 8 0 5) ∧ v1 < 6 := by omega
                                 obtain ⟨hz, hl, h6⟩ := hz
                                 subst hz
                                 rw [cif_t rfl, fr_l ⟨hl, h6⟩]
                                 have e := ih (k + 1) (v1 + 1) (v2 + 0) 0 (vI (g 21 0 k)) (vI 1) (by omega) (by omega) (by omega) (by omega) (by omega) (by omega) (by omega) (by omega)
                                 rw [cif_t rfl] at e
                                 exact e)
                              | (have hz : ld = 1 ∧ (97 ≤ g 21 0 k ∧ g 21 0 k ≤ 96 + g 8 0 5) ∧ v2 < 6 := by omega
                                 obtain ⟨hz, hl, h6⟩ := hz
                                 subst hz
                                 rw [cif_f (by decide), fr_l ⟨hl, h6⟩]
                                 have e := ih (k + 1) (v1 + 0) (v2 + 1) 1 (vI (g 21 0 k)) (vI 1) (by omega) (by omega) (by omega) (by omega) (by omega) (by omega) (by omega) (by omega)
                                 rw [cif_f (by decide)] at e
                                 exact e)
                              | (have hz : ld = 0 ∧ ¬ (97 ≤ g 21 0 k ∧ g 21 0 k ≤ 96 + g 8 0 5) ∧ (g 21 0 k = 62 ∨ g 21 0 k = 61) ∧ 0 < v1 ∧ v2 = 0 := by omega
                                 obtain ⟨hz, hl, h6, h7, h8⟩ := hz
                                 subst hz
                                 subst h8
                                 rw [cif_t rfl, fr_a (fun z => hl z.1) ⟨h6, rfl, h7⟩]
                                 have e := ih (k + 1) (v1 + 0) (0 + 0) 1 (vI (g 21 0 k)) (vI 1) (by omega) (by omega) (by omega) (by omega) (by omega) (by omega) (by omega) (by omega)
                                 rw [cif_f (by decide)] at e
                                 exact e)
                          · refine o_iconst (n := 150) rfl rfl ?_
                            refine o_goto (t := 154) rfl rfl ?_
                            refine o_iadd (n := 155) rfl rfl (by omega) ?_
                            refine o_istore_2 (n := 156) rfl rfl rfl ?_
                            refine o_iinc_4 (n := 159) rfl rfl rfl (by omega) ?_
                            refine o_goto (t := 9) rfl rfl ?_
                            first
                              | (exfalso; omega; done)
                              | (have hz : ld = 0 ∧ (97 ≤ g 21 0 k ∧ g 21 0 k ≤ 96 + g 8 0 5) ∧ v1 < 6 := by omega
                                 obtain ⟨hz, hl, h6⟩ := hz
                                 subst hz
                                 rw [cif_t rfl, fr_l ⟨hl, h6⟩]
                                 have e := ih (k + 1) (v1 + 1) (v2 + 0) 0 (vI (g 21 0 k)) (vI 1) (by omega) (by omega) (by omega) (by omega) (by omega) (by omega) (by omega) (by omega)
                                 rw [cif_t rfl] at e
                                 exact e)
                              | (have hz : ld = 1 ∧ (97 ≤ g 21 0 k ∧ g 21 0 k ≤ 96 + g 8 0 5) ∧ v2 < 6 := by omega
                                 obtain ⟨hz, hl, h6⟩ := hz
                                 subst hz
                                 rw [cif_f (by decide), fr_l ⟨hl, h6⟩]
                                 have e := ih (k + 1) (v1 + 0) (v2 + 1) 1 (vI (g 21 0 k)) (vI 1) (by omega) (by omega) (by omega) (by omega) (by omega) (by omega) (by omega) (by omega)
                                 rw [cif_f (by decide)] at e
                                 exact e)
                              | (have hz : ld = 0 ∧ ¬ (97 ≤ g 21 0 k ∧ g 21 0 k ≤ 96 + g 8 0 5) ∧ (g 21 0 k = 62 ∨ g 21 0 k = 61) ∧ 0 < v1 ∧ v2 = 0 := by omega
                                 obtain ⟨hz, hl, h6, h7, h8⟩ := hz
                                 subst hz
                                 subst h8
                                 rw [cif_t rfl, fr_a (fun z => hl z.1) ⟨h6, rfl, h7⟩]
                                 have e := ih (k + 1) (v1 + 0) (0 + 0) 1 (vI (g 21 0 k)) (vI 1) (by omega) (by omega) (by omega) (by omega) (by omega) (by omega) (by omega) (by omega)
                                 rw [cif_f (by decide)] at e
                                 exact e)
                      · refine o_iconst (n := 129) rfl rfl ?_
                        refine o_goto (t := 133) rfl rfl ?_
                        refine o_iadd (n := 134) rfl rfl (by omega) ?_
                        refine o_istore_1 (n := 135) rfl rfl rfl ?_
                        refine o_iload_n (n := 136) rfl rfl rfl ?_
                        refine o_aload_n (n := 137) rfl rfl rfl ?_
                        refine o_iload (n := 139) rfl rfl rfl ?_
                        refine o_invi (n := 142) rfl rfl rfl rfl rfl rfl rfl rfl rfl rfl (c8_isSign _ hs0 hs1) ?_
                        refine o_ifb_eq (n := 145) (t := 153) rfl rfl rfl (fun k142 => ?_) (fun k142 => ?_)
                        · refine o_iconst (n := 154) rfl rfl ?_
                          refine o_iadd (n := 155) rfl rfl (by omega) ?_
                          refine o_istore_2 (n := 156) rfl rfl rfl ?_
                          refine o_iinc_4 (n := 159) rfl rfl rfl (by omega) ?_
                          refine o_goto (t := 9) rfl rfl ?_
                          first
                            | (exfalso; omega; done)
                            | (have hz : ld = 0 ∧ (97 ≤ g 21 0 k ∧ g 21 0 k ≤ 96 + g 8 0 5) ∧ v1 < 6 := by omega
                               obtain ⟨hz, hl, h6⟩ := hz
                               subst hz
                               rw [cif_t rfl, fr_l ⟨hl, h6⟩]
                               have e := ih (k + 1) (v1 + 1) (v2 + 0) 0 (vI (g 21 0 k)) (vI 1) (by omega) (by omega) (by omega) (by omega) (by omega) (by omega) (by omega) (by omega)
                               rw [cif_t rfl] at e
                               exact e)
                            | (have hz : ld = 1 ∧ (97 ≤ g 21 0 k ∧ g 21 0 k ≤ 96 + g 8 0 5) ∧ v2 < 6 := by omega
                               obtain ⟨hz, hl, h6⟩ := hz
                               subst hz
                               rw [cif_f (by decide), fr_l ⟨hl, h6⟩]
                               have e := ih (k + 1) (v1 + 0) (v2 + 1) 1 (vI (g 21 0 k)) (vI 1) (by omega) (by omega) (by omega) (by omega) (by omega) (by omega) (by omega) (by omega)
                               rw [cif_f (by decide)] at e
                               exact e)
                            | (have hz : ld = 0 ∧ ¬ (97 ≤ g 21 0 k ∧ g 21 0 k ≤ 96 + g 8 0 5) ∧ (g 21 0 k = 62 ∨ g 21 0 k = 61) ∧ 0 < v1 ∧ v2 = 0 := by omega
                               obtain ⟨hz, hl, h6, h7, h8⟩ := hz
                               subst hz
                               subst h8
                               rw [cif_t rfl, fr_a (fun z => hl z.1) ⟨h6, rfl, h7⟩]
                               have e := ih (k + 1) (v1 + 0) (0 + 0) 1 (vI (g 21 0 k)) (vI 1) (by omega) (by omega) (by omega) (by omega) (by omega) (by omega) (by omega) (by omega)
                               rw [cif_f (by decide)] at e
                               exact e)
                        · refine o_iload_n (n := 146) rfl rfl rfl ?_
                          refine o_if_eq (n := 149) (t := 153) rfl rfl rfl (fun k146 => ?_) (fun k146 => ?_)
                          · refine o_iconst (n := 154) rfl rfl ?_
                            refine o_iadd (n := 155) rfl rfl (by omega) ?_
                            refine o_istore_2 (n := 156) rfl rfl rfl ?_
                            refine o_iinc_4 (n := 159) rfl rfl rfl (by omega) ?_
                            refine o_goto (t := 9) rfl rfl ?_
                            first
                              | (exfalso; omega; done)
                              | (have hz : ld = 0 ∧ (97 ≤ g 21 0 k ∧ g 21 0 k ≤ 96 + g 8 0 5) ∧ v1 < 6 := by omega
                                 obtain ⟨hz, hl, h6⟩ := hz
                                 subst hz
                                 rw [cif_t rfl, fr_l ⟨hl, h6⟩]
                                 have e := ih (k + 1) (v1 + 1) (v2 + 0) 0 (vI (g 21 0 k)) (vI 1) (by omega) (by omega) (by omega) (by omega) (by omega) (by omega) (by omega) (by omega)
                                 rw [cif_t rfl] at e
                                 exact e)
                              | (have hz : ld = 1 ∧ (97 ≤ g 21 0 k ∧ g 21 0 k ≤ 96 + g 8 0 5) ∧ v2 < 6 := by omega
                                 obtain ⟨hz, hl, h6⟩ := hz
                                 subst hz
                                 rw [cif_f (by decide), fr_l ⟨hl, h6⟩]
                                 have e := ih (k + 1) (v1 + 0) (v2 + 1) 1 (vI (g 21 0 k)) (vI 1) (by omega) (by omega) (by omega) (by omega) (by omega) (by omega) (by omega) (by omega)
                                 rw [cif_f (by decide)] at e
                                 exact e)
                              | (have hz : ld = 0 ∧ ¬ (97 ≤ g 21 0 k ∧ g 21 0 k ≤ 96 + g 8 0 5) ∧ (g 21 0 k = 62 ∨ g 21 0 k = 61) ∧ 0 < v1 ∧ v2 = 0 := by omega
                                 obtain ⟨hz, hl, h6, h7, h8⟩ := hz
                                 subst hz
                                 subst h8
                                 rw [cif_t rfl, fr_a (fun z => hl z.1) ⟨h6, rfl, h7⟩]
                                 have e := ih (k + 1) (v1 + 0) (0 + 0) 1 (vI (g 21 0 k)) (vI 1) (by omega) (by omega) (by omega) (by omega) (by omega) (by omega) (by omega) (by omega)
                                 rw [cif_f (by decide)] at e
                                 exact e)
                          · refine o_iconst (n := 150) rfl rfl ?_
                            refine o_goto (t := 154) rfl rfl ?_
                            refine o_iadd (n := 155) rfl rfl (by omega) ?_
                            refine o_istore_2 (n := 156) rfl rfl rfl ?_
                            refine o_iinc_4 (n := 159) rfl rfl rfl (by omega) ?_
                            refine o_goto (t := 9) rfl rfl ?_
                            first
                              | (exfalso; omega; done)
                              | (have hz : ld = 0 ∧ (97 ≤ g 21 0 k ∧ g 21 0 k ≤ 96 + g 8 0 5) ∧ v1 < 6 := by omega
                                 obtain ⟨hz, hl, h6⟩ := hz
                                 subst hz
                                 rw [cif_t rfl, fr_l ⟨hl, h6⟩]
                                 have e := ih (k + 1) (v1 + 1) (v2 + 0) 0 (vI (g 21 0 k)) (vI 1) (by omega) (by omega) (by omega) (by omega) (by omega) (by omega) (by omega) (by omega)
                                 rw [cif_t rfl] at e
                                 exact e)
                              | (have hz : ld = 1 ∧ (97 ≤ g 21 0 k ∧ g 21 0 k ≤ 96 + g 8 0 5) ∧ v2 < 6 := by omega
                                 obtain ⟨hz, hl, h6⟩ := hz
                                 subst hz
                                 rw [cif_f (by decide), fr_l ⟨hl, h6⟩]
                                 have e := ih (k + 1) (v1 + 0) (v2 + 1) 1 (vI (g 21 0 k)) (vI 1) (by omega) (by omega) (by omega) (by omega) (by omega) (by omega) (by omega) (by omega)
                                 rw [cif_f (by decide)] at e
                                 exact e)
                              | (have hz : ld = 0 ∧ ¬ (97 ≤ g 21 0 k ∧ g 21 0 k ≤ 96 + g 8 0 5) ∧ (g 21 0 k = 62 ∨ g 21 0 k = 61) ∧ 0 < v1 ∧ v2 = 0 := by omega
                                 obtain ⟨hz, hl, h6, h7, h8⟩ := hz
                                 subst hz
                                 subst h8
                                 rw [cif_t rfl, fr_a (fun z => hl z.1) ⟨h6, rfl, h7⟩]
                                 have e := ih (k + 1) (v1 + 0) (0 + 0) 1 (vI (g 21 0 k)) (vI 1) (by omega) (by omega) (by omega) (by omega) (by omega) (by omega) (by omega) (by omega)
                                 rw [cif_f (by decide)] at e
                                 exact e)
                  · refine o_iconst (n := 109) rfl rfl ?_
                    refine o_goto (t := 113) rfl rfl ?_
                    refine o_istore_3 (n := 114) rfl rfl rfl ?_
                    refine o_iload_n (n := 115) rfl rfl rfl ?_
                    refine o_aload_n (n := 116) rfl rfl rfl ?_
                    refine o_iload (n := 118) rfl rfl rfl ?_
                    refine o_invi (n := 121) rfl rfl rfl rfl rfl rfl rfl rfl rfl rfl (c8_isSign _ hs0 hs1) ?_
                    refine o_ifb_eq (n := 124) (t := 132) rfl rfl rfl (fun k121 => ?_) (fun k121 => ?_)
                    · refine o_iconst (n := 133) rfl rfl ?_
                      refine o_iadd (n := 134) rfl rfl (by omega) ?_
                      refine o_istore_1 (n := 135) rfl rfl rfl ?_
                      refine o_iload_n (n := 136) rfl rfl rfl ?_
                      refine o_aload_n (n := 137) rfl rfl rfl ?_
                      refine o_iload (n := 139) rfl rfl rfl ?_
                      refine o_invi (n := 142) rfl rfl rfl rfl rfl rfl rfl rfl rfl rfl (c8_isSign _ hs0 hs1) ?_
                      refine o_ifb_eq (n := 145) (t := 153) rfl rfl rfl (fun k142 => ?_) (fun k142 => ?_)
                      · refine o_iconst (n := 154) rfl rfl ?_
                        refine o_iadd (n := 155) rfl rfl (by omega) ?_
                        refine o_istore_2 (n := 156) rfl rfl rfl ?_
                        refine o_iinc_4 (n := 159) rfl rfl rfl (by omega) ?_
                        refine o_goto (t := 9) rfl rfl ?_
                        first
                          | (exfalso; omega; done)
                          | (have hz : ld = 0 ∧ (97 ≤ g 21 0 k ∧ g 21 0 k ≤ 96 + g 8 0 5) ∧ v1 < 6 := by omega
                             obtain ⟨hz, hl, h6⟩ := hz
                             subst hz
                             rw [cif_t rfl, fr_l ⟨hl, h6⟩]
                             have e := ih (k + 1) (v1 + 1) (v2 + 0) 0 (vI (g 21 0 k)) (vI 1) (by omega) (by omega) (by omega) (by omega) (by omega) (by omega) (by omega) (by omega)
                             rw [cif_t rfl] at e
                             exact e)
                          | (have hz : ld = 1 ∧ (97 ≤ g 21 0 k ∧ g 21 0 k ≤ 96 + g 8 0 5) ∧ v2 < 6 := by omega
                             obtain ⟨hz, hl, h6⟩ := hz
                             subst hz
                             rw [cif_f (by decide), fr_l ⟨hl, h6⟩]
                             have e := ih (k + 1) (v1 + 0) (v2 + 1) 1 (vI (g 21 0 k)) (vI 1) (by omega) (by omega) (by omega) (by omega) (by omega) (by omega) (by omega) (by omega)
                             rw [cif_f (by decide)] at e
                             exact e)
                          | (have hz : ld = 0 ∧ ¬ (97 ≤ g 21 0 k ∧ g 21 0 k ≤ 96 + g 8 0 5) ∧ (g 21 0 k = 62 ∨ g 21 0 k = 61) ∧ 0 < v1 ∧ v2 = 0 := by omega
                             obtain ⟨hz, hl, h6, h7, h8⟩ := hz
                             subst hz
                             subst h8
                             rw [cif_t rfl, fr_a (fun z => hl z.1) ⟨h6, rfl, h7⟩]
                             have e := ih (k + 1) (v1 + 0) (0 + 0) 1 (vI (g 21 0 k)) (vI 1) (by omega) (by omega) (by omega) (by omega) (by omega) (by omega) (by omega) (by omega)
                             rw [cif_f (by decide)] at e
                             exact e)
                      · refine o_iload_n (n := 146) rfl rfl rfl ?_
                        refine o_if_eq (n := 149) (t := 153) rfl rfl rfl (fun k146 => ?_) (fun k146 => ?_)
                        · refine o_iconst (n := 154) rfl rfl ?_
                          refine o_iadd (n := 155) rfl rfl (by omega) ?_
                          refine o_istore_2 (n := 156) rfl rfl rfl ?_
                          refine o_iinc_4 (n := 159) rfl rfl rfl (by omega) ?_
                          refine o_goto (t := 9) rfl rfl ?_
                          first
                            | (exfalso; omega; done)
                            | (have hz : ld = 0 ∧ (97 ≤ g 21 0 k ∧ g 21 0 k ≤ 96 + g 8 0 5) ∧ v1 < 6 := by omega
                               obtain ⟨hz, hl, h6⟩ := hz
                               subst hz
                               rw [cif_t rfl, fr_l ⟨hl, h6⟩]
                               have e := ih (k + 1) (v1 + 1) (v2 + 0) 0 (vI (g 21 0 k)) (vI 1) (by omega) (by omega) (by omega) (by omega) (by omega) (by omega) (by omega) (by omega)
                               rw [cif_t rfl] at e
                               exact e)
                            | (have hz : ld = 1 ∧ (97 ≤ g 21 0 k ∧ g 21 0 k ≤ 96 + g 8 0 5) ∧ v2 < 6 := by omega
                               obtain ⟨hz, hl, h6⟩ := hz
                               subst hz
                               rw [cif_f (by decide), fr_l ⟨hl, h6⟩]
                               have e := ih (k + 1) (v1 + 0) (v2 + 1) 1 (vI (g 21 0 k)) (vI 1) (by omega) (by omega) (by omega) (by omega) (by omega) (by omega) (by omega) (by omega)
                               rw [cif_f (by decide)] at e
                               exact e)
                            | (have hz : ld = 0 ∧ ¬ (97 ≤ g 21 0 k ∧ g 21 0 k ≤ 96 + g 8 0 5) ∧ (g 21 0 k = 62 ∨ g 21 0 k = 61) ∧ 0 < v1 ∧ v2 = 0 := by omega
                               obtain ⟨hz, hl, h6, h7, h8⟩ := hz
                               subst hz
                               subst h8
                               rw [cif_t rfl, fr_a (fun z => hl z.1) ⟨h6, rfl, h7⟩]
                               have e := ih (k + 1) (v1 + 0) (0 + 0) 1 (vI (g 21 0 k)) (vI 1) (by omega) (by omega) (by omega) (by omega) (by omega) (by omega) (by omega) (by omega)
                               rw [cif_f (by decide)] at e
                               exact e)
                        · refine o_iconst (n := 150) rfl rfl ?_
                          refine o_goto (t := 154) rfl rfl ?_
                          refine o_iadd (n := 155) rfl rfl (by omega) ?_
                          refine o_istore_2 (n := 156) rfl rfl rfl ?_
                          refine o_iinc_4 (n := 159) rfl rfl rfl (by omega) ?_
                          refine o_goto (t := 9) rfl rfl ?_
                          first
                            | (exfalso; omega; done)
                            | (have hz : ld = 0 ∧ (97 ≤ g 21 0 k ∧ g 21 0 k ≤ 96 + g 8 0 5) ∧ v1 < 6 := by omega
                               obtain ⟨hz, hl, h6⟩ := hz
                               subst hz
                               rw [cif_t rfl, fr_l ⟨hl, h6⟩]
                               have e := ih (k + 1) (v1 + 1) (v2 + 0) 0 (vI (g 21 0 k)) (vI 1) (by omega) (by omega) (by omega) (by omega) (by omega) (by omega) (by omega) (by omega)
                               rw [cif_t rfl] at e
                               exact e)
                            | (have hz : ld = 1 ∧ (97 ≤ g 21 0 k ∧ g 21 0 k ≤ 96 + g 8 0 5) ∧ v2 < 6 := by omega
                               obtain ⟨hz, hl, h6⟩ := hz
                               subst hz
                               rw [cif_f (by decide), fr_l ⟨hl, h6⟩]
                               have e := ih (k + 1) (v1 + 0) (v2 + 1) 1 (vI (g 21 0 k)) (vI 1) (by omega) (by omega) (by omega) (by omega) (by omega) (by omega) (by omega) (by omega)
                               rw [cif_f (by decide)] at e
                               exact e)
                            | (have hz : ld = 0 ∧ ¬ (97 ≤ g 21 0 k ∧ g 21 0 k ≤ 96 + g 8 0 5) ∧ (g 21 0 k = 62 ∨ g 21 0 k = 61) ∧ 0 < v1 ∧ v2 = 0 := by omega
                               obtain ⟨hz, hl, h6, h7, h8⟩ := hz
                               subst hz
                               subst h8
                               rw [cif_t rfl, fr_a (fun z => hl z.1) ⟨h6, rfl, h7⟩]
                               have e := ih (k + 1) (v1 + 0) (0 + 0) 1 (vI (g 21 0 k)) (vI 1) (by omega) (by omega) (by omega) (by omega) (by omega) (by omega) (by omega) (by omega)
                               rw [cif_f (by decide)] at e
                               exact e)
                    · refine o_iload_n (n := 125) rfl rfl rfl ?_
                      refine o_if_ne (n := 128) (t := 132) rfl rfl rfl (fun k125 => ?_) (fun k125 => ?_)
                      · refine o_iconst (n := 133) rfl rfl ?_
                        refine o_iadd (n := 134) rfl rfl (by omega) ?_
                        refine o_istore_1 (n := 135) rfl rfl rfl ?_
                        refine o_iload_n (n := 136) rfl rfl rfl ?_
                        refine o_aload_n (n := 137) rfl rfl rfl ?_
                        refine o_iload (n := 139) rfl rfl rfl ?_
                        refine o_invi (n := 142) rfl rfl rfl rfl rfl rfl rfl rfl rfl rfl (c8_isSign _ hs0 hs1) ?_
                        refine o_ifb_eq (n := 145) (t := 153) rfl rfl rfl (fun k142 => ?_) (fun k142 => ?_)
                        · refine o_iconst (n := 154) rfl rfl ?_
                          refine o_iadd (n := 155) rfl rfl (by omega) ?_
                          refine o_istore_2 (n := 156) rfl rfl rfl ?_
                          refine o_iinc_4 (n := 159) rfl rfl rfl (by omega) ?_
                          refine o_goto (t := 9) rfl rfl ?_
                          first
                            | (exfalso; omega; done)
                            | (have hz : ld = 0 ∧ (97 ≤ g 21 0 k ∧ g 21 0 k ≤ 96 + g 8 0 5) ∧ v1 < 6 := by omega
                               obtain ⟨hz, hl, h6⟩ := hz
                               subst hz
                               rw [cif_t rfl, fr_l ⟨hl, h6⟩]
                               have e := ih (k + 1) (v1 + 1) (v2 + 0) 0 (vI (g 21 0 k)) (vI 1) (by omega) (by omega) (by omega) (by omega) (by omega) (by omega) (by omega) (by omega)
                               rw [cif_t rfl] at e
                               exact e)
                            | (have hz : ld = 1 ∧ (97 ≤ g 21 0 k ∧ g 21 0 k ≤ 96 + g 8 0 5) ∧ v2 < 6 := by omega
                               obtain ⟨hz, hl, h6⟩ := hz
                               subst hz
                               rw [cif_f (by decide), fr_l ⟨hl, h6⟩]
                               have e := ih (k + 1) (v1 + 0) (v2 + 1) 1 (vI (g 21 0 k)) (vI 1) (by omega) (by omega) (by omega) (by omega) (by omega) (by omega) (by omega) (by omega)
                               rw [cif_f (by decide)] at e
                               exact e)
                            | (have hz : ld = 0 ∧ ¬ (97 ≤ g 21 0 k ∧ g 21 0 k ≤ 96 + g 8 0 5) ∧ (g 21 0 k = 62 ∨ g 21 0 k = 61) ∧ 0 < v1 ∧ v2 = 0 := by omega
                               obtain ⟨hz, hl, h6, h7, h8⟩ := hz
                               subst hz
                               subst h8
                               rw [cif_t rfl, fr_a (fun z => hl z.1) ⟨h6, rfl, h7⟩]
                               have e := ih (k + 1) (v1 + 0) (0 + 0) 1 (vI (g 21 0 k)) (vI 1) (by omega) (by omega) (by omega) (by omega) (by omega) (by omega) (by omega) (by omega)
                               rw [cif_f (by decide)] at e
                               exact e)
                        · refine o_iload_n (n := 146) rfl rfl rfl ?_
                          refine o_if_eq (n := 149) (t := 153) rfl rfl rfl (fun k146 => ?_) (fun k146 => ?_)
                          · refine o_iconst (n := 154) rfl rfl ?_
                            refine o_iadd (n := 155) rfl rfl (by omega) ?_
                            refine o_istore_2 (n := 156) rfl rfl rfl ?_
                            refine o_iinc_4 (n := 159) rfl rfl rfl (by omega) ?_
                            refine o_goto (t := 9) rfl rfl ?_
                            first
                              | (exfalso; omega; done)
                              | (have hz : ld = 0 ∧ (97 ≤ g 21 0 k ∧ g 21 0 k ≤ 96 + g 8 0 5) ∧ v1 < 6 := by omega
                                 obtain ⟨hz, hl, h6⟩ := hz
                                 subst hz
                                 rw [cif_t rfl, fr_l ⟨hl, h6⟩]
                                 have e := ih (k + 1) (v1 + 1) (v2 + 0) 0 (vI (g 21 0 k)) (vI 1) (by omega) (by omega) (by omega) (by omega) (by omega) (by omega) (by omega) (by omega)
                                 rw [cif_t rfl] at e
                                 exact e)
                              | (have hz : ld = 1 ∧ (97 ≤ g 21 0 k ∧ g 21 0 k ≤ 96 + g 8 0 5) ∧ v2 < 6 := by omega
                                 obtain ⟨hz, hl, h6⟩ := hz
                                 subst hz
                                 rw [cif_f (by decide), fr_l ⟨hl, h6⟩]
                                 have e := ih (k + 1) (v1 + 0) (v2 + 1) 1 (vI (g 21 0 k)) (vI 1) (by omega) (by omega) (by omega) (by omega) (by omega) (by omega) (by omega) (by omega)
                                 rw [cif_f (by decide)] at e
                                 exact e)
                              | (have hz : ld = 0 ∧ ¬ (97 ≤ g 21 0 k ∧ g 21 0 k ≤ 96 + g 8 0 5) ∧ (g 21 0 k = 62 ∨ g 21 0 k = 61) ∧ 0 < v1 ∧ v2 = 0 := by omega
                                 obtain ⟨hz, hl, h6, h7, h8⟩ := hz
                                 subst hz
                                 subst h8
                                 rw [cif_t rfl, fr_a (fun z => hl z.1) ⟨h6, rfl, h7⟩]
                                 have e := ih (k + 1) (v1 + 0) (0 + 0) 1 (vI (g 21 0 k)) (vI 1) (by omega) (by omega) (by omega) (by omega) (by omega) (by omega) (by omega) (by omega)
                                 rw [cif_f (by decide)] at e
                                 exact e)
                          · refine o_iconst (n := 150) rfl rfl ?_
                            refine o_goto (t := 154) rfl rfl ?_
                            refine o_iadd (n := 155) rfl rfl (by omega) ?_
                            refine o_istore_2 (n := 156) rfl rfl rfl ?_
                            refine o_iinc_4 (n := 159) rfl rfl rfl (by omega) ?_
                            refine o_goto (t := 9) rfl rfl ?_
                            first
                              | (exfalso; omega; done)
                              | (have hz : ld = 0 ∧ (97 ≤ g 21 0 k ∧ g 21 0 k ≤ 96 + g 8 0 5) ∧ v1 < 6 := by omega
                                 obtain ⟨hz, hl, h6⟩ := hz
                                 subst hz
                                 rw [cif_t rfl, fr_l ⟨hl, h6⟩]
                                 have e := ih (k + 1) (v1 + 1) (v2 + 0) 0 (vI (g 21 0 k)) (vI 1) (by omega) (by omega) (by omega) (by omega) (by omega) (by omega) (by omega) (by omega)
                                 rw [cif_t rfl] at e
                                 exact e)
                              | (have hz : ld = 1 ∧ (97 ≤ g 21 0 k ∧ g 21 0 k ≤ 96 + g 8 0 5) ∧ v2 < 6 := by omega
                                 obtain ⟨hz, hl, h6⟩ := hz
                                 subst hz
                                 rw [cif_f (by decide), fr_l ⟨hl, h6⟩]
                                 have e := ih (k + 1) (v1 + 0) (v2 + 1) 1 (vI (g 21 0 k)) (vI 1) (by omega) (by omega) (by omega) (by omega) (by omega) (by omega) (by omega) (by omega)
                                 rw [cif_f (by decide)] at e
                                 exact e)
                              | (have hz : ld = 0 ∧ ¬ (97 ≤ g 21 0 k ∧ g 21 0 k ≤ 96 + g 8 0 5) ∧ (g 21 0 k = 62 ∨ g 21 0 k = 61) ∧ 0 < v1 ∧ v2 = 0 := by omega
                                 obtain ⟨hz, hl, h6, h7, h8⟩ := hz
                                 subst hz
                                 subst h8
                                 rw [cif_t rfl, fr_a (fun z => hl z.1) ⟨h6, rfl, h7⟩]
                                 have e := ih (k + 1) (v1 + 0) (0 + 0) 1 (vI (g 21 0 k)) (vI 1) (by omega) (by omega) (by omega) (by omega) (by omega) (by omega) (by omega) (by omega)
                                 rw [cif_f (by decide)] at e
                                 exact e)
                      · refine o_iconst (n := 129) rfl rfl ?_
                        refine o_goto (t := 133) rfl rfl ?_
                        refine o_iadd (n := 134) rfl rfl (by omega) ?_
                        refine o_istore_1 (n := 135) rfl rfl rfl ?_
                        refine o_iload_n (n := 136) rfl rfl rfl ?_
                        refine o_aload_n (n := 137) rfl rfl rfl ?_
                        refine o_iload (n := 139) rfl rfl rfl ?_
                        refine o_invi (n := 142) rfl rfl rfl rfl rfl rfl rfl rfl rfl rfl (c8_isSign _ hs0 hs1) ?_
                        refine o_ifb_eq (n := 145) (t := 153) rfl rfl rfl (fun k142 => ?_) (fun k142 => ?_)
                        · refine o_iconst (n := 154) rfl rfl ?_
                          refine o_iadd (n := 155) rfl rfl (by omega) ?_
                          refine o_istore_2 (n := 156) rfl rfl rfl ?_
                          refine o_iinc_4 (n := 159) rfl rfl rfl (by omega) ?_
                          refine o_goto (t := 9) rfl rfl ?_
                          first
                            | (exfalso; omega; done)
                            | (have hz : ld = 0 ∧ (97 ≤ g 21 0 k ∧ g 21 0 k ≤ 96 + g 8 0 5) ∧ v1 < 6 := by omega
                               obtain ⟨hz, hl, h6⟩ := hz
                               subst hz
                               rw [cif_t rfl, fr_l ⟨hl, h6⟩]
                               have e := ih (k + 1) (v1 + 1) (v2 + 0) 0 (vI (g 21 0 k)) (vI 1) (by omega) (by omega) (by omega) (by omega) (by omega) (by omega) (by omega) (by omega)
                               rw [cif_t rfl] at e
                               exact e)
                            | (have hz : ld = 1 ∧ (97 ≤ g 21 0 k ∧ g 21 0 k ≤ 96 + g 8 0 5) ∧ v2 < 6 := by omega
                               obtain ⟨hz, hl, h6⟩ := hz
                               subst hz
                               rw [cif_f (by decide), fr_l ⟨hl, h6⟩]
                               have e := ih (k + 1) (v1 + 0) (v2 + 1) 1 (vI (g 21 0 k)) (vI 1) (by omega) (by omega) (by omega) (by omega) (by omega) (by omega) (by omega) (by omega)
                               rw [cif_f (by decide)] at e
                               exact e)
                            | (have hz : ld = 0 ∧ ¬ (97 ≤ g 21 0 k ∧ g 21 0 k ≤ 96 + g 8 0 5) ∧ (g 21 0 k = 62 ∨ g 21 0 k = 61) ∧ 0 < v1 ∧ v2 = 0 := by omega
                               obtain ⟨hz, hl, h6, h7, h8⟩ := hz
                               subst hz
                               subst h8
                               rw [cif_t rfl, fr_a (fun z => hl z.1) ⟨h6, rfl, h7⟩]
                               have e := ih (k + 1) (v1 + 0) (0 + 0) 1 (vI (g 21 0 k)) (vI 1) (by omega) (by omega) (by omega) (by omega) (by omega) (by omega) (by omega) (by omega)
                               rw [cif_f (by decide)] at e
                               exact e)
                        · refine o_iload_n (n := 146) rfl rfl rfl ?_
                          refine o_if_eq (n := 149) (t := 153) rfl rfl rfl (fun k146 => ?_) (fun k146 => ?_)
                          · refine o_iconst (n := 154) rfl rfl ?_
                            refine o_iadd (n := 155) rfl rfl (by omega) ?_
                            refine o_istore_2 (n := 156) rfl rfl rfl ?_
                            refine o_iinc_4 (n := 159) rfl rfl rfl (by omega) ?_
                            refine o_goto (t := 9) rfl rfl ?_
                            first
                              | (exfalso; omega; done)
                              | (have hz : ld = 0 ∧ (97 ≤ g 21 0 k ∧ g 21 0 k ≤ 96 + g 8 0 5) ∧ v1 < 6 := by omega
                                 obtain ⟨hz, hl, h6⟩ := hz
                                 subst hz
                                 rw [cif_t rfl, fr_l ⟨hl, h6⟩]
                                 have e := ih (k + 1) (v1 + 1) (v2 + 0) 0 (vI (g 21 0 k)) (vI 1) (by omega) (by omega) (by omega) (by omega) (by omega) (by omega) (by omega) (by omega)
                                 rw [cif_t rfl] at e
                                 exact e)
                              | (have hz : ld = 1 ∧ (97 ≤ g 21 0 k ∧ g 21 0 k ≤ 96 + g 8 0 5) ∧ v2 < 6 := by omega
                                 obtain ⟨hz, hl, h6⟩ := hz
                                 subst hz
                                 rw [cif_f (by decide), fr_l ⟨hl, h6⟩]
                                 have e := ih (k + 1) (v1 + 0) (v2 + 1) 1 (vI (g 21 0 k)) (vI 1) (by omega) (by omega) (by omega) (by omega) (by omega) (by omega) (by omega) (by omega)
                                 rw [cif_f (by decide)] at e
                                 exact e)
                              | (have hz : ld = 0 ∧ ¬ (97 ≤ g 21 0 k ∧ g 21 0 k ≤ 96 + g 8 0 5) ∧ (g 21 0 k = 62 ∨ g 21 0 k = 61) ∧ 0 < v1 ∧ v2 = 0 := by omega
                                 obtain ⟨hz, hl, h6, h7, h8⟩ := hz
                                 subst hz
                                 subst h8
                                 rw [cif_t rfl, fr_a (fun z => hl z.1) ⟨h6, rfl, h7⟩]
                                 have e := ih (k + 1) (v1 + 0) (0 + 0) 1 (vI (g 21 0 k)) (vI 1) (by omega) (by omega) (by omega) (by omega) (by omega) (by omega) (by omega) (by omega)
                                 rw [cif_f (by decide)] at e
                                 exact e)
                          · refine o_iconst (n := 150) rfl rfl ?_
                            refine o_goto (t := 154) rfl rfl ?_
                            refine o_iadd (n := 155) rfl rfl (by omega) ?_
                            refine o_istore_2 (n := 156) rfl rfl rfl ?_
                            refine o_iinc_4 (n := 159) rfl rfl rfl (by omega) ?_
                            refine o_goto (t := 9) rfl rfl ?_
                            first
                              | (exfalso; omega; done)
                              | (have hz : ld = 0 ∧ (97 ≤ g 21 0 k ∧ g 21 0 k ≤ 96 + g 8 0 5) ∧ v1 < 6 := by omega
                                 obtain ⟨hz, hl, h6⟩ := hz
                                 subst hz
                                 rw [cif_t rfl, fr_l ⟨hl, h6⟩]
                                 have e := ih (k + 1) (v1 + 1) (v2 + 0) 0 (vI (g 21 0 k)) (vI 1) (by omega) (by omega) (by omega) (by omega) (by omega) (by omega) (by omega) (by omega)
                                 rw [cif_t rfl] at e
                                 exact e)
                              | (have hz : ld = 1 ∧ (97 ≤ g 21 0 k ∧ g 21 0 k ≤ 96 + g 8 0 5) ∧ v2 < 6 := by omega
                                 obtain ⟨hz, hl, h6⟩ := hz
                                 subst hz
                                 rw [cif_f (by decide), fr_l ⟨hl, h6⟩]
                                 have e := ih (k + 1) (v1 + 0) (v2 + 1) 1 (vI (g 21 0 k)) (vI 1) (by omega) (by omega) (by omega) (by omega) (by omega) (by omega) (by omega) (by omega)
                                 rw [cif_f (by decide)] at e
                                 exact e)
                              | (have hz : ld = 0 ∧ ¬ (97 ≤ g 21 0 k ∧ g 21 0 k ≤ 96 + g 8 0 5) ∧ (g 21 0 k = 62 ∨ g 21 0 k = 61) ∧ 0 < v1 ∧ v2 = 0 := by omega
                                 obtain ⟨hz, hl, h6, h7, h8⟩ := hz
                                 subst hz
                                 subst h8
                                 rw [cif_t rfl, fr_a (fun z => hl z.1) ⟨h6, rfl, h7⟩]
                                 have e := ih (k + 1) (v1 + 0) (0 + 0) 1 (vI (g 21 0 k)) (vI 1) (by omega) (by omega) (by omega) (by omega) (by omega) (by omega) (by omega) (by omega)
                                 rw [cif_f (by decide)] at e
                                 exact e)
              · refine o_iload (n := 94) rfl rfl rfl ?_
                refine o_iret rfl rfl ?_
                first
                  | (exfalso; omega; done)
                  | (refine ⟨congrArg (fun z => some (vI z)) ?_, rfl, rfl⟩
                     by_cases hz : ld = 0
                     · rw [cif_t hz, fr_x (by omega) (by omega)]
                     · rw [cif_f hz, fr_x (by omega) (by omega)])
    · refine o_iload_n (n := 37) rfl rfl rfl ?_
      refine o_if_eq (n := 40) (t := 44) rfl rfl rfl (fun k37 => ?_) (fun k37 => ?_)
      · refine o_iload_n (n := 45) rfl rfl rfl ?_
        refine o_bipush (n := 47) rfl rfl ?_
        refine o_icmp_ge (n := 50) (t := 54) rfl rfl rfl (fun k47 => ?_) (fun k47 => ?_)
        · refine o_iconst (n := 55) rfl rfl ?_
          refine o_goto (t := 85) rfl rfl ?_
          refine o_istore_6 (n := 87) rfl rfl rfl ?_
          refine o_iload (n := 89) rfl rfl rfl ?_
          refine o_if_ne (n := 92) (t := 95) rfl rfl rfl (fun k89 => ?_) (fun k89 => ?_)
          · refine o_iload_n (n := 96) rfl rfl rfl ?_
            refine o_if_ne (n := 99) (t := 108) rfl rfl rfl (fun k96 => ?_) (fun k96 => ?_)
            · refine o_iconst (n := 109) rfl rfl ?_
              refine o_goto (t := 113) rfl rfl ?_
              refine o_istore_3 (n := 114) rfl rfl rfl ?_
              refine o_iload_n (n := 115) rfl rfl rfl ?_
              refine o_aload_n (n := 116) rfl rfl rfl ?_
              refine o_iload (n := 118) rfl rfl rfl ?_
              refine o_invi (n := 121) rfl rfl rfl rfl rfl rfl rfl rfl rfl rfl (c8_isSign _ hs0 hs1) ?_
              refine o_ifb_eq (n := 124) (t := 132) rfl rfl rfl (fun k121 => ?_) (fun k121 => ?_)
              · refine o_iconst (n := 133) rfl rfl ?_
                refine o_iadd (n := 134) rfl rfl (by omega) ?_
                refine o_istore_1 (n := 135) rfl rfl rfl ?_
                refine o_iload_n (n := 136) rfl rfl rfl ?_
                refine o_aload_n (n := 137) rfl rfl rfl ?_
                refine o_iload (n := 139) rfl rfl rfl ?_
                refine o_invi (n := 142) rfl rfl rfl rfl rfl rfl rfl rfl rfl rfl (c8_isSign _ hs0 hs1) ?_
                refine o_ifb_eq (n := 145) (t := 153) rfl rfl rfl (fun k142 => ?_) (fun k142 => ?_)
                · refine o_iconst (n := 154) rfl rfl ?_
                  refine o_iadd (n := 155) rfl rfl (by omega) ?_
                  refine o_istore_2 (n := 156) rfl rfl rfl ?_
                  refine o_iinc_4 (n := 159) rfl rfl rfl (by omega) ?_
                  refine o_goto (t := 9) rfl rfl ?_
                  first
                    | (exfalso; omega; done)
                    | (have hz : ld = 0 ∧ (97 ≤ g 21 0 k ∧ g 21 0 k ≤ 96 + g 8 0 5) ∧ v1 < 6 := by omega
                       obtain ⟨hz, hl, h6⟩ := hz
                       subst hz
                       rw [cif_t rfl, fr_l ⟨hl, h6⟩]
                       have e := ih (k + 1) (v1 + 1) (v2 + 0) 0 (vI (g 21 0 k)) (vI 1) (by omega) (by omega) (by omega) (by omega) (by omega) (by omega) (by omega) (by omega)
                       rw [cif_t rfl] at e
                       exact e)
                    | (have hz : ld = 1 ∧ (97 ≤ g 21 0 k ∧ g 21 0 k ≤ 96 + g 8 0 5) ∧ v2 < 6 := by omega
                       obtain ⟨hz, hl, h6⟩ := hz
                       subst hz
                       rw [cif_f (by decide), fr_l ⟨hl, h6⟩]
                       have e := ih (k + 1) (v1 + 0) (v2 + 1) 1 (vI (g 21 0 k)) (vI 1) (by omega) (by omega) (by omega) (by omega) (by omega) (by omega) (by omega) (by omega)
                       rw [cif_f (by decide)] at e
                       exact e)
                    | (have hz : ld = 0 ∧ ¬ (97 ≤ g 21 0 k ∧ g 21 0 k ≤ 96 + g 8 0 5) ∧ (g 21 0 k = 62 ∨ g 21 0 k = 61) ∧ 0 < v1 ∧ v2 = 0 := by omega
                       obtain ⟨hz, hl, h6, h7, h8⟩ := hz
                       subst hz
                       subst h8
                       rw [cif_t rfl, fr_a (fun z => hl z.1) ⟨h6, rfl, h7⟩]
                       have e := ih (k + 1) (v1 + 0) (0 + 0) 1 (vI (g 21 0 k)) (vI 1) (by omega) (by omega) (by omega) (by omega) (by omega) (by omega) (by omega) (by omega)
                       rw [cif_f (by decide)] at e
                       exact e)
                · refine o_iload_n (n := 146) rfl rfl rfl ?_
                  refine o_if_eq (n := 149) (t := 153) rfl rfl rfl (fun k146 => ?_) (fun k146 => ?_)
                  · refine o_iconst (n := 154) rfl rfl ?_
                    refine o_iadd (n := 155) rfl rfl (by omega) ?_
                    refine o_istore_2 (n := 156) rfl rfl rfl ?_
                    refine o_iinc_4 (n := 159) rfl rfl rfl (by omega) ?_
                    refine o_goto (t := 9) rfl rfl ?_
                    first
                      | (exfalso; omega; done)
                      | (have hz : ld = 0 ∧ (97 ≤ g 21 0 k ∧ g 21 0 k ≤ 96 + g 8 0 5) ∧ v1 < 6 := by omega
                         obtain ⟨hz, hl, h6⟩ := hz
                         subst hz
                         rw [cif_t rfl, fr_l ⟨hl, h6⟩]
                         have e := ih (k + 1) (v1 + 1) (v2 + 0) 0 (vI (g 21 0 k)) (vI 1) (by omega) (by omega) (by omega) (by omega) (by omega) (by omega) (by omega) (by omega)
                         rw [cif_t rfl] at e
                         exact e)
                      | (have hz : ld = 1 ∧ (97 ≤ g 21 0 k ∧ g 21 0 k ≤ 96 + g 8 0 5) ∧ v2 < 6 := by omega
                         obtain ⟨hz, hl, h6⟩ := hz
                         subst hz
                         rw [cif_f (by decide), fr_l ⟨hl, h6⟩]
                         have e := ih (k + 1) (v1 + 0) (v2 + 1) 1 (vI (g 21 0 k)) (vI 1) (by omega) (by omega) (by omega) (by omega) (by omega) (by omega) (by omega) (by omega)
                         rw [cif_f (by decide)] at e
                         exact e)
                      | (have hz : ld = 0 ∧ ¬ (97 ≤ g 21 0 k ∧ g 21 0 k ≤ 96 + g 8 0 5) ∧ (g 21 0 k = 62 ∨ g 21 0 k = 61) ∧ 0 < v1 ∧ v2 = 0 := by omega
                         obtain ⟨hz, hl, h6, h7, h8⟩ := hz
                         subst hz
                         subst h8
                         rw [cif_t rfl, fr_a (fun z => hl z.1) ⟨h6, rfl, h7⟩]
                         have e := ih (k + 1) (v1 + 0) (0 + 0) 1 (vI (g 21 0 k)) (vI 1) (by omega) (by omega) (by omega) (by omega) (by omega) (by omega) (by omega) (by omega)
                         rw [cif_f (by decide)] at e
                         exact e)
                  · refine o_iconst (n := 150) rfl rfl ?_
                    refine o_goto (t := 154) rfl rfl ?_
                    refine o_iadd (n := 155) rfl rfl (by omega) ?_
                    refine o_istore_2 (n := 156) rfl rfl rfl ?_
                    refine o_iinc_4 (n := 159) rfl rfl rfl (by omega) ?_
                    refine o_goto (t := 9) rfl rfl ?_
                    first
                      | (exfalso; omega; done)
                      | (have hz : ld = 0 ∧ (97 ≤ g 21 0 k ∧ g 21 0 k ≤ 96 + g 8 0 5) ∧ v1 < 6 := by omega
                         obtain ⟨hz, hl, h6⟩ := hz
                         subst hz
                         rw [cif_t rfl, fr_l ⟨hl, h6⟩]
                         have e := ih (k + 1) (v1 + 1) (v2 + 0) 0 (vI (g 21 0 k)) (vI 1) (by omega) (by omega) (by omega) (by omega) (by omega) (by omega) (by omega) (by omega)
                         rw [cif_t rfl] at e
                         exact e)
                      | (have hz : ld = 1 ∧ (97 ≤ g 21 0 k ∧ g 21 0 k ≤ 96 + g 8 0 5) ∧ v2 < 6 := by omega
                         obtain ⟨hz, hl, h6⟩ := hz
                         subst hz
                         rw [cif_f (by decide), fr_l ⟨hl, h6⟩]
                         have e := ih (k + 1) (v1 + 0) (v2 + 1) 1 (vI (g 21 0 k)) (vI 1) (by omega) (by omega) (by omega) (by omega) (by omega) (by omega) (by omega) (by omega)
                         rw [cif_f (by decide)] at e
                         exact e)
                      | (have hz : ld = 0 ∧ ¬ (97 ≤ g 21 0 k ∧ g 21 0 k ≤ 96 + g 8 0 5) ∧ (g 21 0 k = 62 ∨ g 21 0 k = 61) ∧ 0 < v1 ∧ v2 = 0 := by omega
                         obtain ⟨hz, hl, h6, h7, h8⟩ := hz
                         subst hz
                         subst h8
                         rw [cif_t rfl, fr_a (fun z => hl z.1) ⟨h6, rfl, h7⟩]
                         have e := ih (k + 1) (v1 + 0) (0 + 0) 1 (vI (g 21 0 k)) (vI 1) (by omega) (by omega) (by omega) (by omega) (by omega) (by omega) (by omega) (by omega)
                         rw [cif_f (by decide)] at e
                         exact e)
              · refine o_iload_n (n := 125) rfl rfl rfl ?_
                refine o_if_ne (n := 128) (t := 132) rfl rfl rfl (fun k125 => ?_) (fun k125 => ?_)
                · refine o_iconst (n := 133) rfl rfl ?_
                  refine o_iadd (n := 134) rfl rfl (by omega) ?_
                  refine o_istore_1 (n := 135) rfl rfl rfl ?_
                  refine o_iload_n (n := 136) rfl rfl rfl ?_
                  refine o_aload_n (n := 137) rfl rfl rfl ?_
                  refine o_iload (n := 139) rfl rfl rfl ?_
                  refine o_invi (n := 142) rfl rfl rfl rfl rfl rfl rfl rfl rfl rfl (c8_isSign _ hs0 hs1) ?_
                  refine o_ifb_eq (n := 145) (t := 153) rfl rfl rfl (fun k142 => ?_) (fun k142 => ?_)
                  · refine o_iconst (n := 154) rfl rfl ?_
                    refine o_iadd (n := 155) rfl rfl (by omega) ?_
                    refine o_istore_2 (n := 156) rfl rfl rfl ?_
                    refine o_iinc_4 (n := 159) rfl rfl rfl (by omega) ?_
                    refine o_goto (t := 9) rfl rfl ?_
                    first
                      | (exfalso; omega; done)
                      | (have hz : ld = 0 ∧ (97 ≤ g 21 0 k ∧ g 21 0 k ≤ 96 + g 8 0 5) ∧ v1 < 6 := by omega
                         obtain ⟨hz, hl, h6⟩ := hz
                         subst hz
                         rw [cif_t rfl, fr_l ⟨hl, h6⟩]
                         have e := ih (k + 1) (v1 + 1) (v2 + 0) 0 (vI (g 21 0 k)) (vI 1) (by omega) (by omega) (by omega) (by omega) (by omega) (by omega) (by omega) (by omega)
                         rw [cif_t rfl] at e
                         exact e)
                      | (have hz : ld = 1 ∧ (97 ≤ g 21 0 k ∧ g 21 0 k ≤ 96 + g 8 0 5) ∧ v2 < 6 := by omega
                         obtain ⟨hz, hl, h6⟩ := hz
                         subst hz
                         rw [cif_f (by decide), fr_l ⟨hl, h6⟩]
                         have e := ih (k + 1) (v1 + 0) (v2 + 1) 1 (vI (g 21 0 k)) (vI 1) (by omega) (by omega) (by omega) (by omega) (by omega) (by omega) (by omega) (by omega)
                         rw [cif_f (by decide)] at e
                         exact e)
                      | (have hz : ld = 0 ∧ ¬ (97 ≤ g 21 0 k ∧ g 21 0 k ≤ 96 + g 8 0 5) ∧ (g 21 0 k = 62 ∨ g 21 0 k = 61) ∧ 0 < v1 ∧ v2 = 0 := by omega
                         obtain ⟨hz, hl, h6, h7, h8⟩ := hz
                         subst hz
                         subst h8
                         rw [cif_t rfl, fr_a (fun z => hl z.1) ⟨h6, rfl, h7⟩]
                         have e := ih (k + 1) (v1 + 0) (0 + 0) 1 (vI (g 21 0 k)) (vI 1) (by omega) (by omega) (by omega) (by omega) (by omega) (by omega) (by omega) (by omega)
                         rw [cif_f (by decide)] at e
                         exact e)
                  · refine o_iload_n (n := 146) rfl rfl rfl ?_
                    refine o_if_eq (n := 149) (t := 153) rfl rfl rfl (fun k146 => ?_) (fun k146 => ?_)
                    · refine o_iconst (n := 154) rfl rfl ?_
                      refine o_iadd (n := 155) rfl rfl (by omega) ?_
                      refine o_istore_2 (n := 156) rfl rfl rfl ?_
                      refine o_iinc_4 (n := 159) rfl rfl rfl (by omega) ?_
                      refine o_goto (t := 9) rfl rfl ?_
                      first
                        | (exfalso; omega; done)
                        | (have hz : ld = 0 ∧ (97 ≤ g 21 0 k ∧ g 21 0 k ≤ 96 + g 8 0 5) ∧ v1 < 6 := by omega
                           obtain ⟨hz, hl, h6⟩ := hz
                           subst hz
                           rw [cif_t rfl, fr_l ⟨hl, h6⟩]
                           have e := ih (k + 1) (v1 + 1) (v2 + 0) 0 (vI (g 21 0 k)) (vI 1) (by omega) (by omega) (by omega) (by omega) (by omega) (by omega) (by omega) (by omega)
                           rw [cif_t rfl] at e
                           exact e)
                        | (have hz : ld = 1 ∧ (97 ≤ g 21 0 k ∧ g 21 0 k ≤ 96 + g 8 0 5) ∧ v2 < 6 := by omega
                           obtain ⟨hz, hl, h6⟩ := hz
                           subst hz
                           rw [cif_f (by decide), fr_l ⟨hl, h6⟩]
                           have e := ih (k + 1) (v1 + 0) (v2 + 1) 1 (vI (g 21 0 k)) (vI 1) (by omega) (by omega) (by omega) (by omega) (by omega) (by omega) (by omega) (by omega)
                           rw [cif_f (by decide)] at e
                           exact e)
                        | (have hz : ld = 0 ∧ ¬ (97 ≤ g 21 0 k ∧ g 21 0 k ≤ 96 + g 8 0 5) ∧ (g 21 0 k = 62 ∨ g 21 0 k = 61) ∧ 0 < v1 ∧ v2 = 0 := by omega
                           obtain ⟨hz, hl, h6, h7, h8⟩ := hz
                           subst hz
                           subst h8
                           rw [cif_t rfl, fr_a (fun z => hl z.1) ⟨h6, rfl, h7⟩]
                           have e := ih (k + 1) (v1 + 0) (0 + 0) 1 (vI (g 21 0 k)) (vI 1) (by omega) (by omega) (by omega) (by omega) (by omega) (by omega) (by omega) (by omega)
                           rw [cif_f (by decide)] at e
                           exact e)
                    · refine o_iconst (n := 150) rfl rfl ?_
                      refine o_goto (t := 154) rfl rfl ?_
                      refine o_iadd (n := 155) rfl rfl (by omega) ?_
                      refine o_istore_2 (n := 156) rfl rfl rfl ?_
                      refine o_iinc_4 (n := 159) rfl rfl rfl (by omega) ?_
                      refine o_goto (t := 9) rfl rfl ?_
                      first
                        | (exfalso; omega; done)
                        | (have hz : ld = 0 ∧ (97 ≤ g 21 0 k ∧ g 21 0 k ≤ 96 + g 8 0 5) ∧ v1 < 6 := by omega
                           obtain ⟨hz, hl, h6⟩ := hz
                           subst hz
                           rw [cif_t rfl, fr_l ⟨hl, h6⟩]
                           have e := ih (k + 1) (v1 + 1) (v2 + 0) 0 (vI (g 21 0 k)) (vI 1) (by omega) (by omega) (by omega) (by omega) (by omega) (by omega) (by omega) (by omega)
                           rw [cif_t rfl] at e
                           exact e)
                        | (have hz : ld = 1 ∧ (97 ≤ g 21 0 k ∧ g 21 0 k ≤ 96 + g 8 0 5) ∧ v2 < 6 := by omega
                           obtain ⟨hz, hl, h6⟩ := hz
                           subst hz
                           rw [cif_f (by decide), fr_l ⟨hl, h6⟩]
                           have e := ih (k + 1) (v1 + 0) (v2 + 1) 1 (vI (g 21 0 k)) (vI 1) (by omega) (by omega) (by omega) (by omega) (by omega) (by omega) (by omega) (by omega)
                           rw [cif_f (by decide)] at e
                           exact e)
                        | (have hz : ld = 0 ∧ ¬ (97 ≤ g 21 0 k ∧ g 21 0 k ≤ 96 + g 8 0 5) ∧ (g 21 0 k = 62 ∨ g 21 0 k = 61) ∧ 0 < v1 ∧ v2 = 0 := by omega
                           obtain ⟨hz, hl, h6, h7, h8⟩ := hz
                           subst hz
                           subst h8
                           rw [cif_t rfl, fr_a (fun z => hl z.1) ⟨h6, rfl, h7⟩]
                           have e := ih (k + 1) (v1 + 0) (0 + 0) 1 (vI (g 21 0 k)) (vI 1) (by omega) (by omega) (by omega) (by omega) (by omega) (by omega) (by omega) (by omega)
                           rw [cif_f (by decide)] at e
                           exact e)
                · refine o_iconst (n := 129) rfl rfl ?_
                  refine o_goto (t := 133) rfl rfl ?_
                  refine o_iadd (n := 134) rfl rfl (by omega) ?_
                  refine o_istore_1 (n := 135) rfl rfl rfl ?_
                  refine o_iload_n (n := 136) rfl rfl rfl ?_
                  refine o_aload_n (n := 137) rfl rfl rfl ?_
                  refine o_iload (n := 139) rfl rfl rfl ?_
                  refine o_invi (n := 142) rfl rfl rfl rfl rfl rfl rfl rfl rfl rfl (c8_isSign _ hs0 hs1) ?_
                  refine o_ifb_eq (n := 145) (t := 153) rfl rfl rfl (fun k142 => ?_) (fun k142 => ?_)
                  · refine o_iconst (n := 154) rfl rfl ?_
                    refine o_iadd (n := 155) rfl rfl (by omega) ?_
                    refine o_istore_2 (n := 156) rfl rfl rfl ?_
                    refine o_iinc_4 (n := 159) rfl rfl rfl (by omega) ?_
                    refine o_goto (t := 9) rfl rfl ?_
                    first
                      | (exfalso; omega; done)
                      | (have hz : ld = 0 ∧ (97 ≤ g 21 0 k ∧ g 21 0 k ≤ 96 + g 8 0 5) ∧ v1 < 6 := by omega
                         obtain ⟨hz, hl, h6⟩ := hz
                         subst hz
                         rw [cif_t rfl, fr_l ⟨hl, h6⟩]
                         have e := ih (k + 1) (v1 + 1) (v2 + 0) 0 (vI (g 21 0 k)) (vI 1) (by omega) (by omega) (by omega) (by omega) (by omega) (by omega) (by omega) (by omega)
                         rw [cif_t rfl] at e
                         exact e)
                      | (have hz : ld = 1 ∧ (97 ≤ g 21 0 k ∧ g 21 0 k ≤ 96 + g 8 0 5) ∧ v2 < 6 := by omega
                         obtain ⟨hz, hl, h6⟩ := hz
                         subst hz
                         rw [cif_f (by decide), fr_l ⟨hl, h6⟩]
                         have e := ih (k + 1) (v1 + 0) (v2 + 1) 1 (vI (g 21 0 k)) (vI 1) (by omega) (by omega) (by omega) (by omega) (by omega) (by omega) (by omega) (by omega)
                         rw [cif_f (by decide)] at e
                         exact e)
                      | (have hz : ld = 0 ∧ ¬ (97 ≤ g 21 0 k ∧ g 21 0 k ≤ 96 + g 8 0 5) ∧ (g 21 0 k = 62 ∨ g 21 0 k = 61) ∧ 0 < v1 ∧ v2 = 0 := by omega
                         obtain ⟨hz, hl, h6, h7, h8⟩ := hz
                         subst hz
                         subst h8
                         rw [cif_t rfl, fr_a (fun z => hl z.1) ⟨h6, rfl, h7⟩]
                         have e := ih (k + 1) (v1 + 0) (0 + 0) 1 (vI (g 21 0 k)) (vI 1) (by omega) (by omega) (by omega) (by omega) (by omega) (by omega) (by omega) (by omega)
                         rw [cif_f (by decide)] at e
                         exact e)
                  · refine o_iload_n (n := 146) rfl rfl rfl ?_
                    refine o_if_eq (n := 149) (t := 153) rfl rfl rfl (fun k146 => ?_) (fun k146 => ?_)
                    · refine o_iconst (n := 154) rfl rfl ?_
                      refine o_iadd (n := 155) rfl rfl (by omega) ?_
                      refine o_istore_2 (n := 156) rfl rfl rfl ?_
                      refine o_iinc_4 (n := 159) rfl rfl rfl (by omega) ?_
                      refine o_goto (t := 9) rfl rfl ?_
                      first
                        | (exfalso; omega; done)
                        | (have hz : ld = 0 ∧ (97 ≤ g 21 0 k ∧ g 21 0 k ≤ 96 + g 8 0 5) ∧ v1 < 6 := by omega
                           obtain ⟨hz, hl, h6⟩ := hz
                           subst hz
                           rw [cif_t rfl, fr_l ⟨hl, h6⟩]
                           have e := ih (k + 1) (v1 + 1) (v2 + 0) 0 (vI (g 21 0 k)) (vI 1) (by omega) (by omega) (by omega) (by omega) (by omega) (by omega) (by omega) (by omega)
                           rw [cif_t rfl] at e
                           exact e)
                        | (have hz : ld = 1 ∧ (97 ≤ g 21 0 k ∧ g 21 0 k ≤ 96 + g 8 0 5) ∧ v2 < 6 := by omega
                           obtain ⟨hz, hl, h6⟩ := hz
                           subst hz
                           rw [cif_f (by decide), fr_l ⟨hl, h6⟩]
                           have e := ih (k + 1) (v1 + 0) (v2 + 1) 1 (vI (g 21 0 k)) (vI 1) (by omega) (by omega) (by omega) (by omega) (by omega) (by omega) (by omega) (by omega)
                           rw [cif_f (by decide)] at e
                           exact e)
                        | (have hz : ld = 0 ∧ ¬ (97 ≤ g 21 0 k ∧ g 21 0 k ≤ 96 + g 8 0 5) ∧ (g 21 0 k = 62 ∨ g 21 0 k = 61) ∧ 0 < v1 ∧ v2 = 0 := by omega
                           obtain ⟨hz, hl, h6, h7, h8⟩ := hz
                           subst hz
                           subst h8
                           rw [cif_t rfl, fr_a (fun z => hl z.1) ⟨h6, rfl, h7⟩]
                           have e := ih (k + 1) (v1 + 0) (0 + 0) 1 (vI (g 21 0 k)) (vI 1) (by omega) (by omega) (by omega) (by omega) (by omega) (by omega) (by omega) (by omega)
                           rw [cif_f (by decide)] at e
                           exact e)
                    · refine o_iconst (n := 150) rfl rfl ?_
                      refine o_goto (t := 154) rfl rfl ?_
                      refine o_iadd (n := 155) rfl rfl (by omega) ?_
                      refine o_istore_2 (n := 156) rfl rfl rfl ?_
                      refine o_iinc_4 (n := 159) rfl rfl rfl (by omega) ?_
                      refine o_goto (t := 9) rfl rfl ?_
                      first
                        | (exfalso; omega; done)
                        | (have hz : ld = 0 ∧ (97 ≤ g 21 0 k ∧ g 21 0 k ≤ 96 + g 8 0 5) ∧ v1 < 6 := by omega
                           obtain ⟨hz, hl, h6⟩ := hz
                           subst hz
                           rw [cif_t rfl, fr_l ⟨hl, h6⟩]
                           have e := ih (k + 1) (v1 + 1) (v2 + 0) 0 (vI (g 21 0 k)) (vI 1) (by omega) (by omega) (by omega) (by omega) (by omega) (by omega) (by omega) (by omega)
                           rw [cif_t rfl] at e
                           exact e)
                        | (have hz : ld = 1 ∧ (97 ≤ g 21 0 k ∧ g 21 0 k ≤ 96 + g 8 0 5) ∧ v2 < 6 := by omega
                           obtain ⟨hz, hl, h6⟩ := hz
                           subst hz
                           rw [cif_f (by decide), fr_l ⟨hl, h6⟩]
                           have e := ih (k + 1) (v1 + 0) (v2 + 1) 1 (vI (g 21 0 k)) (vI 1) (by omega) (by omega) (by omega) (by omega) (by omega) (by omega) (by omega) (by omega)
                           rw [cif_f (by decide)] at e
                           exact e)
                        | (have hz : ld = 0 ∧ ¬ (97 ≤ g 21 0 k ∧ g 21 0 k ≤ 96 + g 8 0 5) ∧ (g 21 0 k = 62 ∨ g 21 0 k = 61) ∧ 0 < v1 ∧ v2 = 0 := by omega
                           obtain ⟨hz, hl, h6, h7, h8⟩ := hz
                           subst hz
                           subst h8
                           rw [cif_t rfl, fr_a (fun z => hl z.1) ⟨h6, rfl, h7⟩]
                           have e := ih (k + 1) (v1 + 0) (0 + 0) 1 (vI (g 21 0 k)) (vI 1) (by omega) (by omega) (by omega) (by omega) (by omega) (by omega) (by omega) (by omega)
                           rw [cif_f (by decide)] at e
                           exact e)
            · refine o_aload_n (n := 100) rfl rfl rfl ?_
              refine o_iload (n := 102) rfl rfl rfl ?_
              refine o_invi (n := 105) rfl rfl rfl rfl rfl rfl rfl rfl rfl rfl (c8_isSign _ hs0 hs1) ?_
              refine o_ifb_ne (n := 108) (t := 112) rfl rfl rfl (fun k105 => ?_) (fun k105 => ?_)
              · refine o_iconst (n := 113) rfl rfl ?_
                refine o_istore_3 (n := 114) rfl rfl rfl ?_
                refine o_iload_n (n := 115) rfl rfl rfl ?_
                refine o_aload_n (n := 116) rfl rfl rfl ?_
                refine o_iload (n := 118) rfl rfl rfl ?_
                refine o_invi (n := 121) rfl rfl rfl rfl rfl rfl rfl rfl rfl rfl (c8_isSign _ hs0 hs1) ?_
                refine o_ifb_eq (n := 124) (t := 132) rfl rfl rfl (fun k121 => ?_) (fun k121 => ?_)
                · refine o_iconst (n := 133) rfl rfl ?_
                  refine o_iadd (n := 134) rfl rfl (by omega) ?_
                  refine o_istore_1 (n := 135) rfl rfl rfl ?_
                  refine o_iload_n (n := 136) rfl rfl rfl ?_
                  refine o_aload_n (n := 137) rfl rfl rfl ?_
                  refine o_iload (n := 139) rfl rfl rfl ?_
                  refine o_invi (n := 142) rfl rfl rfl rfl rfl rfl rfl rfl rfl rfl (c8_isSign _ hs0 hs1) ?_
                  refine o_ifb_eq (n := 145) (t := 153) rfl rfl rfl (fun k142 => ?_) (fun k142 => ?_)
                  · refine o_iconst (n := 154) rfl rfl ?_
                    refine o_iadd (n := 155) rfl rfl (by omega) ?_
                    refine o_istore_2 (n := 156) rfl rfl rfl ?_
                    refine o_iinc_4 (n := 159) rfl rfl rfl (by omega) ?_
                    refine o_goto (t := 9) rfl rfl ?_
                    first
                      | (exfalso; omega; done)
                      | (have hz : ld = 0 ∧ (97 ≤ g 21 0 k ∧ g 21 0 k ≤ 96 + g 8 0 5) ∧ v1 < 6 := by omega
                         obtain ⟨hz, hl, h6⟩ := hz
                         subst hz
                         rw [cif_t rfl, fr_l ⟨hl, h6⟩]
                         have e := ih (k + 1) (v1 + 1) (v2 + 0) 0 (vI (g 21 0 k)) (vI 1) (by omega) (by omega) (by omega) (by omega) (by omega) (by omega) (by omega) (by omega)
                         rw [cif_t rfl] at e
                         exact e)
                      | (have hz : ld = 1 ∧ (97 ≤ g 21 0 k ∧ g 21 0 k ≤ 96 + g 8 0 5) ∧ v2 < 6 := by omega
                         obtain ⟨hz, hl, h6⟩ := hz
                         subst hz
                         rw [cif_f (by decide), fr_l ⟨hl, h6⟩]
                         have e := ih (k + 1) (v1 + 0) (v2 + 1) 1 (vI (g 21 0 k)) (vI 1) (by omega) (by omega) (by omega) (by omega) (by omega) (by omega) (by omega) (by omega)
                         rw [cif_f (by decide)] at e
                         exact e)
                      | (have hz : ld = 0 ∧ ¬ (97 ≤ g 21 0 k ∧ g 21 0 k ≤ 96 + g 8 0 5) ∧ (g 21 0 k = 62 ∨ g 21 0 k = 61) ∧ 0 < v1 ∧ v2 = 0 := by omega
                         obtain ⟨hz, hl, h6, h7, h8⟩ := hz
                         subst hz
                         subst h8
                         rw [cif_t rfl, fr_a (fun z => hl z.1) ⟨h6, rfl, h7⟩]
                         have e := ih (k + 1) (v1 + 0) (0 + 0) 1 (vI (g 21 0 k)) (vI 1) (by omega) (by omega) (by omega) (by omega) (by omega) (by omega) (by omega) (by omega)
                         rw [cif_f (by decide)] at e
                         exact e)
                  · refine o_iload_n (n := 146) rfl rfl rfl ?_
                    refine o_if_eq (n := 149) (t := 153) rfl rfl rfl (fun k146 => ?_) (fun k146 => ?_)
                    · refine o_iconst (n := 154) rfl rfl ?_
                      refine o_iadd (n := 155) rfl rfl (by omega) ?_
                      refine o_istore_2 (n := 156) rfl rfl rfl ?_
                      refine o_iinc_4 (n := 159) rfl rfl rfl (by omega) ?_
                      refine o_goto (t := 9) rfl rfl ?_
                      first
                        | (exfalso; omega; done)
                        | (have hz : ld = 0 ∧ (97 ≤ g 21 0 k ∧ g 21 0 k ≤ 96 + g 8 0 5) ∧ v1 < 6 := by omega
                           obtain ⟨hz, hl, h6⟩ := hz
                           subst hz
                           rw [cif_t rfl, fr_l ⟨hl, h6⟩]
                           have e := ih (k + 1) (v1 + 1) (v2 + 0) 0 (vI (g 21 0 k)) (vI 1) (by omega) (by omega) (by omega) (by omega) (by omega) (by omega) (by omega) (by omega)
                           rw [cif_t rfl] at e
                           exact e)
                        | (have hz : ld = 1 ∧ (97 ≤ g 21 0 k ∧ g 21 0 k ≤ 96 + g 8 0 5) ∧ v2 < 6 := by omega
                           obtain ⟨hz, hl, h6⟩ := hz
                           subst hz
                           rw [cif_f (by decide), fr_l ⟨hl, h6⟩]
                           have e := ih (k + 1) (v1 + 0) (v2 + 1) 1 (vI (g 21 0 k)) (vI 1) (by omega) (by omega) (by omega) (by omega) (by omega) (by omega) (by omega) (by omega)
                           rw [cif_f (by decide)] at e
                           exact e)
                        | (have hz : ld = 0 ∧ ¬ (97 ≤ g 21 0 k ∧ g 21 0 k ≤ 96 + g 8 0 5) ∧ (g 21 0 k = 62 ∨ g 21 0 k = 61) ∧ 0 < v1 ∧ v2 = 0 := by omega
                           obtain ⟨hz, hl, h6, h7, h8⟩ := hz
                           subst hz
                           subst h8
                           rw [cif_t rfl, fr_a (fun z => hl z.1) ⟨h6, rfl, h7⟩]
                           have e := ih (k + 1) (v1 + 0) (0 + 0) 1 (vI (g 21 0 k)) (vI 1) (by omega) (by omega) (by omega) (by omega) (by omega) (by omega) (by omega) (by omega)
                           rw [cif_f (by decide)] at e
                           exact e)
                    · refine o_iconst (n := 150) rfl rfl ?_
                      refine o_goto (t := 154) rfl rfl ?_
                      refine o_iadd (n := 155) rfl rfl (by omega) ?_
                      refine o_istore_2 (n := 156) rfl rfl rfl ?_
                      refine o_iinc_4 (n := 159) rfl rfl rfl (by omega) ?_
                      refine o_goto (t := 9) rfl rfl ?_
                      first
                        | (exfalso; omega; done)
                        | (have hz : ld = 0 ∧ (97 ≤ g 21 0 k ∧ g 21 0 k ≤ 96 + g 8 0 5) ∧ v1 < 6 := by omega
                           obtain ⟨hz, hl, h6⟩ := hz
                           subst hz
                           rw [cif_t rfl, fr_l ⟨hl, h6⟩]
                           have e := ih (k + 1) (v1 + 1) (v2 + 0) 0 (vI (g 21 0 k)) (vI 1) (by omega) (by omega) (by omega) (by omega) (by omega) (by omega) (by omega) (by omega)
                           rw [cif_t rfl] at e
                           exact e)
                        | (have hz : ld = 1 ∧ (97 ≤ g 21 0 k ∧ g 21 0 k ≤ 96 + g 8 0 5) ∧ v2 < 6 := by omega
                           obtain ⟨hz, hl, h6⟩ := hz
                           subst hz
                           rw [cif_f (by decide), fr_l ⟨hl, h6⟩]
                           have e := ih (k + 1) (v1 + 0) (v2 + 1) 1 (vI (g 21 0 k)) (vI 1) (by omega) (by omega) (by omega) (by omega) (by omega) (by omega) (by omega) (by omega)
                           rw [cif_f (by decide)] at e
                           exact e)
                        | (have hz : ld = 0 ∧ ¬ (97 ≤ g 21 0 k ∧ g 21 0 k ≤ 96 + g 8 0 5) ∧ (g 21 0 k = 62 ∨ g 21 0 k = 61) ∧ 0 < v1 ∧ v2 = 0 := by omega
                           obtain ⟨hz, hl, h6, h7, h8⟩ := hz
                           subst hz
                           subst h8
                           rw [cif_t rfl, fr_a (fun z => hl z.1) ⟨h6, rfl, h7⟩]
                           have e := ih (k + 1) (v1 + 0) (0 + 0) 1 (vI (g 21 0 k)) (vI 1) (by omega) (by omega) (by omega) (by omega) (by omega) (by omega) (by omega) (by omega)
                           rw [cif_f (by decide)] at e
                           exact e)
                · refine o_iload_n (n := 125) rfl rfl rfl ?_
                  refine o_if_ne (n := 128) (t := 132) rfl rfl rfl (fun k125 => ?_) (fun k125 => ?_)
                  · refine o_iconst (n := 133) rfl rfl ?_
                    refine o_iadd (n := 134) rfl rfl (by omega) ?_
                    refine o_istore_1 (n := 135) rfl rfl rfl ?_
                    refine o_iload_n (n := 136) rfl rfl rfl ?_
                    refine o_aload_n (n := 137) rfl rfl rfl ?_
                    refine o_iload (n := 139) rfl rfl rfl ?_
                    refine o_invi (n := 142) rfl rfl rfl rfl rfl rfl rfl rfl rfl rfl (c8_isSign _ hs0 hs1) ?_
                    refine o_ifb_eq (n := 145) (t := 153) rfl rfl rfl (fun k142 => ?_) (fun k142 => ?_)
                    · refine o_iconst (n := 154) rfl rfl ?_
                      refine o_iadd (n := 155) rfl rfl (by omega) ?_
                      refine o_istore_2 (n := 156) rfl rfl rfl ?_
                      refine o_iinc_4 (n := 159) rfl rfl rfl (by omega) ?_
                      refine o_goto (t := 9) rfl rfl ?_
                      first
                        | (exfalso; omega; done)
                        | (have hz : ld = 0 ∧ (97 ≤ g 21 0 k ∧ g 21 0 k ≤ 96 + g 8 0 5) ∧ v1 < 6 := by omega
                           obtain ⟨hz, hl, h6⟩ := hz
                           subst hz
                           rw [cif_t rfl, fr_l ⟨hl, h6⟩]
                           have e := ih (k + 1) (v1 + 1) (v2 + 0) 0 (vI (g 21 0 k)) (vI 1) (by omega) (by omega) (by omega) (by omega) (by omega) (by omega) (by omega) (by omega)
                           rw [cif_t rfl] at e
                           exact e)
                        | (have hz : ld = 1 ∧ (97 ≤ g 21 0 k ∧ g 21 0 k ≤ 96 + g 8 0 5) ∧ v2 < 6 := by omega
                           obtain ⟨hz, hl, h6⟩ := hz
                           subst hz
                           rw [cif_f (by decide), fr_l ⟨hl, h6⟩]
                           have e := ih (k + 1) (v1 + 0) (v2 + 1) 1 (vI (g 21 0 k)) (vI 1) (by omega) (by omega) (by omega) (by omega) (by omega) (by omega) (by omega) (by omega)
                           rw [cif_f (by decide)] at e
                           exact e)
                        | (have hz : ld = 0 ∧ ¬ (97 ≤ g 21 0 k ∧ g 21 0 k ≤ 96 + g 8 0 5) ∧ (g 21 0 k = 62 ∨ g 21 0 k = 61) ∧ 0 < v1 ∧ v2 = 0 := by omega
                           obtain ⟨hz, hl, h6, h7, h8⟩ := hz
                           subst hz
                           subst h8
                           rw [cif_t rfl, fr_a (fun z => hl z.1) ⟨h6, rfl, h7⟩]
                           have e := ih (k + 1) (v1 + 0) (0 + 0) 1 (vI (g 21 0 k)) (vI 1) (by omega) (by omega) (by omega) (by omega) (by omega) (by omega) (by omega) (by omega)
                           rw [cif_f (by decide)] at e
                           exact e)
                    · refine o_iload_n (n := 146) rfl rfl rfl ?_
                      refine o_if_eq (n := 149) (t := 153) rfl rfl rfl (fun k146 => ?_) (fun k146 => ?_)
                      · refine o_iconst (n := 154) rfl rfl ?_
                        refine o_iadd (n := 155) rfl rfl (by omega) ?_
                        refine o_istore_2 (n := 156) rfl rfl rfl ?_
                        refine o_iinc_4 (n := 159) rfl rfl rfl (by omega) ?_
                        refine o_goto (t := 9) rfl rfl ?_
                        first
                          | (exfalso; omega; done)
                          | (have hz : ld = 0 ∧ (97 ≤ g 21 0 k ∧ g 21 0 k ≤ 96 + g 8 0 5) ∧ v1 < 6 := by omega
                             obtain ⟨hz, hl, h6⟩ := hz
                             subst hz
                             rw [cif_t rfl, fr_l ⟨hl, h6⟩]
                             have e := ih (k + 1) (v1 + 1) (v2 + 0) 0 (vI (g 21 0 k)) (vI 1) (by omega) (by omega) (by omega) (by omega) (by omega) (by omega) (by omega) (by omega)
                             rw [cif_t rfl] at e
                             exact e)
                          | (have hz : ld = 1 ∧ (97 ≤ g 21 0 k ∧ g 21 0 k ≤ 96 + g 8 0 5) ∧ v2 < 6 := by omega
                             obtain ⟨hz, hl, h6⟩ := hz
                             subst hz
                             rw [cif_f (by decide), fr_l ⟨hl, h6⟩]
                             have e := ih (k + 1) (v1 + 0) (v2 + 1) 1 (vI (g 21 0 k)) (vI 1) (by omega) (by omega) (by omega) (by omega) (by omega) (by omega) (by omega) (by omega)
                             rw [cif_f (by decide)] at e
                             exact e)
                          | (have hz : ld = 0 ∧ ¬ (97 ≤ g 21 0 k ∧ g 21 0 k ≤ 96 + g 8 0 5) ∧ (g 21 0 k = 62 ∨ g 21 0 k = 61) ∧ 0 < v1 ∧ v2 = 0 := by omega
                             obtain ⟨hz, hl, h6, h7, h8⟩ := hz
                             subst hz
                             subst h8
                             rw [cif_t rfl, fr_a (fun z => hl z.1) ⟨h6, rfl, h7⟩]
                             have e := ih (k + 1) (v1 + 0) (0 + 0) 1 (vI (g 21 0 k)) (vI 1) (by omega) (by omega) (by omega) (by omega) (by omega) (by omega) (by omega) (by omega)
                             rw [cif_f (by decide)] at e
                             exact e)
                      · refine o_iconst (n := 150) rfl rfl ?_
                        refine o_goto (t := 154) rfl rfl ?_
                        refine o_iadd (n := 155) rfl rfl (by omega) ?_
                        refine o_istore_2 (n := 156) rfl rfl rfl ?_
                        refine o_iinc_4 (n := 159) rfl rfl rfl (by omega) ?_
                        refine o_goto (t := 9) rfl rfl ?_
                        first
                          | (exfalso; omega; done)
                          | (have hz : ld = 0 ∧ (97 ≤ g 21 0 k ∧ g 21 0 k ≤ 96 + g 8 0 5) ∧ v1 < 6 := by omega
                             obtain ⟨hz, hl, h6⟩ := hz
                             subst hz
                             rw [cif_t rfl, fr_l ⟨hl, h6⟩]
                             have e := ih (k + 1) (v1 + 1) (v2 + 0) 0 (vI (g 21 0 k)) (vI 1) (by omega) (by omega) (by omega) (by omega) (by omega) (by omega) (by omega) (by omega)
                             rw [cif_t rfl] at e
                             exact e)
                          | (have hz : ld = 1 ∧ (97 ≤ g 21 0 k ∧ g 21 0 k ≤ 96 + g 8 0 5) ∧ v2 < 6 := by omega
                             obtain ⟨hz, hl, h6⟩ := hz
                             subst hz
                             rw [cif_f (by decide), fr_l ⟨hl, h6⟩]
                             have e := ih (k + 1) (v1 + 0) (v2 + 1) 1 (vI (g 21 0 k)) (vI 1) (by omega) (by omega) (by omega) (by omega) (by omega) (by omega) (by omega) (by omega)
                             rw [cif_f (by decide)] at e
                             exact e)
                          | (have hz : ld = 0 ∧ ¬ (97 ≤ g 21 0 k ∧ g 21 0 k ≤ 96 + g 8 0 5) ∧ (g 21 0 k = 62 ∨ g 21 0 k = 61) ∧ 0 < v1 ∧ v2 = 0 := by omega
                             obtain ⟨hz, hl, h6, h7, h8⟩ := hz
                             subst hz
                             subst h8
                             rw [cif_t rfl, fr_a (fun z => hl z.1) ⟨h6, rfl, h7⟩]
                             have e := ih (k + 1) (v1 + 0) (0 + 0) 1 (vI (g 21 0 k)) (vI 1) (by omega) (by omega) (by omega) (by omega) (by omega) (by omega) (by omega) (by omega)
                             rw [cif_f (by decide)] at e
                             exact e)
                  · refine o_iconst (n := 129) rfl rfl ?_
                    refine o_goto (t := 133) rfl rfl ?_
                    refine o_iadd (n := 134) rfl rfl (by omega) ?_
                    refine o_istore_1 (n := 135) rfl rfl rfl ?_
                    refine o_iload_n (n := 136) rfl rfl rfl ?_
                    refine o_aload_n (n := 137) rfl rfl rfl ?_
                    refine o_iload (n := 139) rfl rfl rfl ?_
                    refine o_invi (n := 142) rfl rfl rfl rfl rfl rfl rfl rfl rfl rfl (c8_isSign _ hs0 hs1) ?_
                    refine o_ifb_eq (n := 145) (t := 153) rfl rfl rfl (fun k142 => ?_) (fun k142 => ?_)
                    · refine o_iconst (n := 154) rfl rfl ?_
                      refine o_iadd (n := 155) rfl rfl (by omega) ?_
                      refine o_istore_2 (n := 156) rfl rfl rfl ?_
                      refine o_iinc_4 (n := 159) rfl rfl rfl (by omega) ?_
                      refine o_goto (t := 9) rfl rfl ?_
                      first
                        | (exfalso; omega; done)
                        | (have hz : ld = 0 ∧ (97 ≤ g 21 0 k ∧ g 21 0 k ≤ 96 + g 8 0 5) ∧ v1 < 6 := by omega
                           obtain ⟨hz, hl, h6⟩ := hz
                           subst hz
                           rw [cif_t rfl, fr_l ⟨hl, h6⟩]
                           have e := ih (k + 1) (v1 + 1) (v2 + 0) 0 (vI (g 21 0 k)) (vI 1) (by omega) (by omega) (by omega) (by omega) (by omega) (by omega) (by omega) (by omega)
                           rw [cif_t rfl] at e
                           exact e)
                        | (have hz : ld = 1 ∧ (97 ≤ g 21 0 k ∧ g 21 0 k ≤ 96 + g 8 0 5) ∧ v2 < 6 := by omega
                           obtain ⟨hz, hl, h6⟩ := hz
                           subst hz
                           rw [cif_f (by decide), fr_l ⟨hl, h6⟩]
                           have e := ih (k + 1) (v1 + 0) (v2 + 1) 1 (vI (g 21 0 k)) (vI 1) (by omega) (by omega) (by omega) (by omega) (by omega) (by omega) (by omega) (by omega)
                           rw [cif_f (by decide)] at e
                           exact e)
                        | (have hz : ld = 0 ∧ ¬ (97 ≤ g 21 0 k ∧ g 21 0 k ≤ 96 + g 8 0 5) ∧ (g 21 0 k = 62 ∨ g 21 0 k = 61) ∧ 0 < v1 ∧ v2 = 0 := by omega
                           obtain ⟨hz, hl, h6, h7, h8⟩ := hz
                           subst hz
                           subst h8
                           rw [cif_t rfl, fr_a (fun z => hl z.1) ⟨h6, rfl, h7⟩]
                           have e := ih (k + 1) (v1 + 0) (0 + 0) 1 (vI (g 21 0 k)) (vI 1) (by omega) (by omega) (by omega) (by omega) (by omega) (by omega) (by omega) (by omega)
                           rw [cif_f (by decide)] at e
                           exact e)
                    · refine o_iload_n (n := 146) rfl rfl rfl ?_
                      refine o_if_eq (n := 149) (t := 153) rfl rfl rfl (fun k146 => ?_) (fun k146 => ?_)
                      · refine o_iconst (n := 154) rfl rfl ?_
                        refine o_iadd (n := 155) rfl rfl (by omega) ?_
                        refine o_istore_2 (n := 156) rfl rfl rfl ?_
                        refine o_iinc_4 (n := 159) rfl rfl rfl (by omega) ?_
                        refine o_goto (t := 9) rfl rfl ?_
                        first
                          | (exfalso; omega; done)
                          | (have hz : ld = 0 ∧ (97 ≤ g 21 0 k ∧ g 21 0 k ≤ 96 + g 8 0 5) ∧ v1 < 6 := by omega
                             obtain ⟨hz, hl, h6⟩ := hz
                             subst hz
                             rw [cif_t rfl, fr_l ⟨hl, h6⟩]
                             have e := ih (k + 1) (v1 + 1) (v2 + 0) 0 (vI (g 21 0 k)) (vI 1) (by omega) (by omega) (by omega) (by omega) (by omega) (by omega) (by omega) (by omega)
                             rw [cif_t rfl] at e
                             exact e)
                          | (have hz : ld = 1 ∧ (97 ≤ g 21 0 k ∧ g 21 0 k ≤ 96 + g 8 0 5) ∧ v2 < 6 := by omega
                             obtain ⟨hz, hl, h6⟩ := hz
                             subst hz
                             rw [cif_f (by decide), fr_l ⟨hl, h6⟩]
                             have e := ih (k + 1) (v1 + 0) (v2 + 1) 1 (vI (g 21 0 k)) (vI 1) (by omega) (by omega) (by omega) (by omega) (by omega) (by omega) (by omega) (by omega)
                             rw [cif_f (by decide)] at e
                             exact e)
                          | (have hz : ld = 0 ∧ ¬ (97 ≤ g 21 0 k ∧ g 21 0 k ≤ 96 + g 8 0 5) ∧ (g 21 0 k = 62 ∨ g 21 0 k = 61) ∧ 0 < v1 ∧ v2 = 0 := by omega
                             obtain ⟨hz, hl, h6, h7, h8⟩ := hz
                             subst hz
                             subst h8
                             rw [cif_t rfl, fr_a (fun z => hl z.1) ⟨h6, rfl, h7⟩]
                             have e := ih (k + 1) (v1 + 0) (0 + 0) 1 (vI (g 21 0 k)) (vI 1) (by omega) (by omega) (by omega) (by omega) (by omega) (by omega) (by omega) (by omega)
                             rw [cif_f (by decide)] at e
                             exact e)
                      · refine o_iconst (n := 150) rfl rfl ?_
                        refine o_goto (t := 154) rfl rfl ?_
                        refine o_iadd (n := 155) rfl rfl (by omega) ?_
                        refine o_istore_2 (n := 156) rfl rfl rfl ?_
                        refine o_iinc_4 (n := 159) rfl rfl rfl (by omega) ?_
                        refine o_goto (t := 9) rfl rfl ?_
                        first
                          | (exfalso; omega; done)
                          | (have hz : ld = 0 ∧ (97 ≤ g 21 0 k ∧ g 21 0 k ≤ 96 + g 8 0 5) ∧ v1 < 6 := by omega
                             obtain ⟨hz, hl, h6⟩ := hz
                             subst hz
                             rw [cif_t rfl, fr_l ⟨hl, h6⟩]
                             have e := ih (k + 1) (v1 + 1) (v2 + 0) 0 (vI (g 21 0 k)) (vI 1) (by omega) (by omega) (by omega) (by omega) (by omega) (by omega) (by omega) (by omega)
                             rw [cif_t rfl] at e
                             exact e)
                          | (have hz : ld = 1 ∧ (97 ≤ g 21 0 k ∧ g 21 0 k ≤ 96 + g 8 0 5) ∧ v2 < 6 := by omega
                             obtain ⟨hz, hl, h6⟩ := hz
                             subst hz
                             rw [cif_f (by decide), fr_l ⟨hl, h6⟩]
                             have e := ih (k + 1) (v1 + 0) (v2 + 1) 1 (vI (g 21 0 k)) (vI 1) (by omega) (by omega) (by omega) (by omega) (by omega) (by omega) (by omega) (by omega)
                             rw [cif_f (by decide)] at e
                             exact e)
                          | (have hz : ld = 0 ∧ ¬ (97 ≤ g 21 0 k ∧ g 21 0 k ≤ 96 + g 8 0 5) ∧ (g 21 0 k = 62 ∨ g 21 0 k = 61) ∧ 0 < v1 ∧ v2 = 0 := by omega
                             obtain ⟨hz, hl, h6, h7, h8⟩ := hz
                             subst hz
                             subst h8
                             rw [cif_t rfl, fr_a (fun z => hl z.1) ⟨h6, rfl, h7⟩]
                             have e := ih (k + 1) (v1 + 0) (0 + 0) 1 (vI (g 21 0 k)) (vI 1) (by omega) (by omega) (by omega) (by omega) (by omega) (by omega) (by omega) (by omega)
                             rw [cif_f (by decide)] at e
                             exact e)
              · refine o_iconst (n := 109) rfl rfl ?_
                refine o_goto (t := 113) rfl rfl ?_
                refine o_istore_3 (n := 114) rfl rfl rfl ?_
                refine o_iload_n (n := 115) rfl rfl rfl ?_
                refine o_aload_n (n := 116) rfl rfl rfl ?_
                refine o_iload (n := 118) rfl rfl rfl ?_
                refine o_invi (n := 121) rfl rfl rfl rfl rfl rfl rfl rfl rfl rfl (c8_isSign _ hs0 hs1) ?_
                refine o_ifb_eq (n := 124) (t := 132) rfl rfl rfl (fun k121 => ?_) (fun k121 => ?_)
                · refine o_iconst (n := 133) rfl rfl ?_
                  refine o_iadd (n := 134) rfl rfl (by omega) ?_
                  refine o_istore_1 (n := 135) rfl rfl rfl ?_
                  refine o_iload_n (n := 136) rfl rfl rfl ?_
                  refine o_aload_n (n := 137) rfl rfl rfl ?_
                  refine o_iload (n := 139) rfl rfl rfl ?_
                  refine o_invi (n := 142) rfl rfl rfl rfl rfl rfl rfl rfl rfl rfl (c8_isSign _ hs0 hs1) ?_
                  refine o_ifb_eq (n := 145) (t := 153) rfl rfl rfl (fun k142 => ?_) (fun k142 => ?_)
                  · refine o_iconst (n := 154) rfl rfl ?_
                    refine o_iadd (n := 155) rfl rfl (by omega) ?_
                    refine o_istore_2 (n := 156) rfl rfl rfl ?_
                    refine o_iinc_4 (n := 159) rfl rfl rfl (by omega) ?_
                    refine o_goto (t := 9) rfl rfl ?_
                    first
                      | (exfalso; omega; done)
                      | (have hz : ld = 0 ∧ (97 ≤ g 21 0 k ∧ g 21 0 k ≤ 96 + g 8 0 5) ∧ v1 < 6 := by omega
                         obtain ⟨hz, hl, h6⟩ := hz
                         subst hz
                         rw [cif_t rfl, fr_l ⟨hl, h6⟩]
                         have e := ih (k + 1) (v1 + 1) (v2 + 0) 0 (vI (g 21 0 k)) (vI 1) (by omega) (by omega) (by omega) (by omega) (by omega) (by omega) (by omega) (by omega)
                         rw [cif_t rfl] at e
                         exact e)
                      | (have hz : ld = 1 ∧ (97 ≤ g 21 0 k ∧ g 21 0 k ≤ 96 + g 8 0 5) ∧ v2 < 6 := by omega
                         obtain ⟨hz, hl, h6⟩ := hz
                         subst hz
                         rw [cif_f (by decide), fr_l ⟨hl, h6⟩]
                         have e := ih (k + 1) (v1 + 0) (v2 + 1) 1 (vI (g 21 0 k)) (vI 1) (by omega) (by omega) (by omega) (by omega) (by omega) (by omega) (by omega) (by omega)
                         rw [cif_f (by decide)] at e
                         exact e)
                      | (have hz : ld = 0 ∧ ¬ (97 ≤ g 21 0 k ∧ g 21 0 k ≤ 96 + g 8 0 5) ∧ (g 21 0 k = 62 ∨ g 21 0 k = 61) ∧ 0 < v1 ∧ v2 = 0 := by omega
                         obtain ⟨hz, hl, h6, h7, h8⟩ := hz
                         subst hz
                         subst h8
                         rw [cif_t rfl, fr_a (fun z => hl z.1) ⟨h6, rfl, h7⟩]
                         have e := ih (k + 1) (v1 + 0) (0 + 0) 1 (vI (g 21 0 k)) (vI 1) (by omega) (by omega) (by omega) (by omega) (by omega) (by omega) (by omega) (by omega)
                         rw [cif_f (by decide)] at e
                         exact e)
                  · refine o_iload_n (n := 146) rfl rfl rfl ?_
                    refine o_if_eq (n := 149) (t := 153) rfl rfl rfl (fun k146 => ?_) (fun k146 => ?_)
                    · refine o_iconst (n := 154) rfl rfl ?_
                      refine o_iadd (n := 155) rfl rfl (by omega) ?_
                      refine o_istore_2 (n := 156) rfl rfl rfl ?_
                      refine o_iinc_4 (n := 159) rfl rfl rfl (by omega) ?_
                      refine o_goto (t := 9) rfl rfl ?_
                      first
                        | (exfalso; omega; done)
                        | (have hz : ld = 0 ∧ (97 ≤ g 21 0 k ∧ g 21 0 k ≤ 96 + g 8 0 5) ∧ v1 < 6 := by omega
                           obtain ⟨hz, hl, h6⟩ := hz
                           subst hz
                           rw [cif_t rfl, fr_l ⟨hl, h6⟩]
                           have e := ih (k + 1) (v1 + 1) (v2 + 0) 0 (vI (g 21 0 k)) (vI 1) (by omega) (by omega) (by omega) (by omega) (by omega) (by omega) (by omega) (by omega)
                           rw [cif_t rfl] at e
                           exact e)
                        | (have hz : ld = 1 ∧ (97 ≤ g 21 0 k ∧ g 21 0 k ≤ 96 + g 8 0 5) ∧ v2 < 6 := by omega
                           obtain ⟨hz, hl, h6⟩ := hz
                           subst hz
                           rw [cif_f (by decide), fr_l ⟨hl, h6⟩]
                           have e := ih (k + 1) (v1 + 0) (v2 + 1) 1 (vI (g 21 0 k)) (vI 1) (by omega) (by omega) (by omega) (by omega) (by omega) (by omega) (by omega) (by omega)
                           rw [cif_f (by decide)] at e
                           exact e)
                        | (have hz : ld = 0 ∧ ¬ (97 ≤ g 21 0 k ∧ g 21 0 k ≤ 96 + g 8 0 5) ∧ (g 21 0 k = 62 ∨ g 21 0 k = 61) ∧ 0 < v1 ∧ v2 = 0 := by omega
                           obtain ⟨hz, hl, h6, h7, h8⟩ := hz
                           subst hz
                           subst h8
                           rw [cif_t rfl, fr_a (fun z => hl z.1) ⟨h6, rfl, h7⟩]
                           have e := ih (k + 1) (v1 + 0) (0 + 0) 1 (vI (g 21 0 k)) (vI 1) (by omega) (by omega) (by omega) (by omega) (by omega) (by omega) (by omega) (by omega)
                           rw [cif_f (by decide)] at e
                           exact e)
                    · refine o_iconst (n := 150) rfl rfl ?_
                      refine o_goto (t := 154) rfl rfl ?_
                      refine o_iadd (n := 155) rfl rfl (by omega) ?_
                      refine o_istore_2 (n := 156) rfl rfl rfl ?_
                      refine o_iinc_4 (n := 159) rfl rfl rfl (by omega) ?_
                      refine o_goto (t := 9) rfl rfl ?_
                      first
                        | (exfalso; omega; done)
                        | (have hz : ld = 0 ∧ (97 ≤ g 21 0 k ∧ g 21 0 k ≤ 96 + g 8 0 5) ∧ v1 < 6 := by omega
                           obtain ⟨hz, hl, h6⟩ := hz
                           subst hz
                           rw [cif_t rfl, fr_l ⟨hl, h6⟩]
                           have e := ih (k + 1) (v1 + 1) (v2 + 0) 0 (vI (g 21 0 k)) (vI 1) (by omega) (by omega) (by omega) (by omega) (by omega) (by omega) (by omega) (by omega)
                           rw [cif_t rfl] at e
                           exact e)
                        | (have hz : ld = 1 ∧ (97 ≤ g 21 0 k ∧ g 21 0 k ≤ 96 + g 8 0 5) ∧ v2 < 6 := by omega
                           obtain ⟨hz, hl, h6⟩ := hz
                           subst hz
                           rw [cif_f (by decide), fr_l ⟨hl, h6⟩]
                           have e := ih (k + 1) (v1 + 0) (v2 + 1) 1 (vI (g 21 0 k)) (vI 1) (by omega) (by omega) (by omega) (by omega) (by omega) (by omega) (by omega) (by omega)
                           rw [cif_f (by decide)] at e
                           exact e)
                        | (have hz : ld = 0 ∧ ¬ (97 ≤ g 21 0 k ∧ g 21 0 k ≤ 96 + g 8 0 5) ∧ (g 21 0 k = 62 ∨ g 21 0 k = 61) ∧ 0 < v1 ∧ v2 = 0 := by omega
                           obtain ⟨hz, hl, h6, h7, h8⟩ := hz
                           subst hz
                           subst h8
                           rw [cif_t rfl, fr_a (fun z => hl z.1) ⟨h6, rfl, h7⟩]
                           have e := ih (k + 1) (v1 + 0) (0 + 0) 1 (vI (g 21 0 k)) (vI 1) (by omega) (by omega) (by omega) (by omega) (by omega) (by omega) (by omega) (by omega)
                           rw [cif_f (by decide)] at e
                           exact e)
                · refine o_iload_n (n := 125) rfl rfl rfl ?_
                  refine o_if_ne (n := 128) (t := 132) rfl rfl rfl (fun k125 => ?_) (fun k125 => ?_)
                  · refine o_iconst (n := 133) rfl rfl ?_
                    refine o_iadd (n := 134) rfl rfl (by omega) ?_
                    refine o_istore_1 (n := 135) rfl rfl rfl ?_
                    refine o_iload_n (n := 136) rfl rfl rfl ?_
                    refine o_aload_n (n := 137) rfl rfl rfl ?_
                    refine o_iload (n := 139) rfl rfl rfl ?_
                    refine o_invi (n := 142) rfl rfl rfl rfl rfl rfl rfl rfl rfl rfl (c8_isSign _ hs0 hs1) ?_
                    refine o_ifb_eq (n := 145) (t := 153) rfl rfl rfl (fun k142 => ?_) (fun k142 => ?_)
                    · refine o_iconst (n := 154) rfl rfl ?_
                      refine o_iadd (n := 155) rfl rfl (by omega) ?_
                      refine o_istore_2 (n := 156) rfl rfl rfl ?_
                      refine o_iinc_4 (n := 159) rfl rfl rfl (by omega) ?_
                      refine o_goto (t := 9) rfl rfl ?_
                      first
                        | (exfalso; omega; done)
                        | (have hz : ld = 0 ∧ (97 ≤ g 21 0 k ∧ g 21 0 k ≤ 96 + g 8 0 5) ∧ v1 < 6 := by omega
                           obtain ⟨hz, hl, h6⟩ := hz
                           subst hz
                           rw [cif_t rfl, fr_l ⟨hl, h6⟩]
                           have e := ih (k + 1) (v1 + 1) (v2 + 0) 0 (vI (g 21 0 k)) (vI 1) (by omega) (by omega) (by omega) (by omega) (by omega) (by omega) (by omega) (by omega)
                           rw [cif_t rfl] at e
                           exact e)
                        | (have hz : ld = 1 ∧ (97 ≤ g 21 0 k ∧ g 21 0 k ≤ 96 + g 8 0 5) ∧ v2 < 6 := by omega
                           obtain ⟨hz, hl, h6⟩ := hz
                           subst hz
                           rw [cif_f (by decide), fr_l ⟨hl, h6⟩]
                           have e := ih (k + 1) (v1 + 0) (v2 + 1) 1 (vI (g 21 0 k)) (vI 1) (by omega) (by omega) (by omega) (by omega) (by omega) (by omega) (by omega) (by omega)
                           rw [cif_f (by decide)] at e
                           exact e)
                        | (have hz : ld = 0 ∧ ¬ (97 ≤ g 21 0 k ∧ g 21 0 k ≤ 96 + g 8 0 5) ∧ (g 21 0 k = 62 ∨ g 21 0 k = 61) ∧ 0 < v1 ∧ v2 = 0 := by omega
                           obtain ⟨hz, hl, h6, h7, h8⟩ := hz
                           subst hz
                           subst h8
                           rw [cif_t rfl, fr_a (fun z => hl z.1) ⟨h6, rfl, h7⟩]
                           have e := ih (k + 1) (v1 + 0) (0 + 0) 1 (vI (g 21 0 k)) (vI 1) (by omega) (by omega) (by omega) (by omega) (by omega) (by omega) (by omega) (by omega)
                           rw [cif_f (by decide)] at e
                           exact e)
                    · refine o_iload_n (n := 146) rfl rfl rfl ?_
                      refine o_if_eq (n := 149) (t := 153) rfl rfl rfl (fun k146 => ?_) (fun k146 => ?_)
                      · refine o_iconst (n := 154) rfl rfl ?_
                        refine o_iadd (n := 155) rfl rfl (by omega) ?_
                        refine o_istore_2 (n := 156) rfl rfl rfl ?_
                        refine o_iinc_4 (n := 159) rfl rfl rfl (by omega) ?_
                        refine o_goto (t := 9) rfl rfl ?_
                        first
                          | (exfalso; omega; done)
                          | (have hz : ld = 0 ∧ (97 ≤ g 21 0 k ∧ g 21 0 k ≤ 96 + g 8 0 5) ∧ v1 < 6 := by omega
                             obtain ⟨hz, hl, h6⟩ := hz
                             subst hz
                             rw [cif_t rfl, fr_l ⟨hl, h6⟩]
                             have e := ih (k + 1) (v1 + 1) (v2 + 0) 0 (vI (g 21 0 k)) (vI 1) (by omega) (by omega) (by omega) (by omega) (by omega) (by omega) (by omega) (by omega)
                             rw [cif_t rfl] at e
                             exact e)
                          | (have hz : ld = 1 ∧ (97 ≤ g 21 0 k ∧ g 21 0 k ≤ 96 + g 8 0 5) ∧ v2 < 6 := by omega
                             obtain ⟨hz, hl, h6⟩ := hz
                             subst hz
                             rw [cif_f (by decide), fr_l ⟨hl, h6⟩]
                             have e := ih (k + 1) (v1 + 0) (v2 + 1) 1 (vI (g 21 0 k)) (vI 1) (by omega) (by omega) (by omega) (by omega) (by omega) (by omega) (by omega) (by omega)
                             rw [cif_f (by decide)] at e
                             exact e)
                          | (have hz : ld = 0 ∧ ¬ (97 ≤ g 21 0 k ∧ g 21 0 k ≤ 96 + g 8 0 5) ∧ (g 21 0 k = 62 ∨ g 21 0 k = 61) ∧ 0 < v1 ∧ v2 = 0 := by omega
                             obtain ⟨hz, hl, h6, h7, h8⟩ := hz
                             subst hz
                             subst h8
                             rw [cif_t rfl, fr_a (fun z => hl z.1) ⟨h6, rfl, h7⟩]
                             have e := ih (k + 1) (v1 + 0) (0 + 0) 1 (vI (g 21 0 k)) (vI 1) (by omega) (by omega) (by omega) (by omega) (by omega) (by omega) (by omega) (by omega)
                             rw [cif_f (by decide)] at e
                             exact e)
                      · refine o_iconst (n := 150) rfl rfl ?_
                        refine o_goto (t := 154) rfl rfl ?_
                        refine o_iadd (n := 155) rfl rfl (by omega) ?_
                        refine o_istore_2 (n := 156) rfl rfl rfl ?_
                        refine o_iinc_4 (n := 159) rfl rfl rfl (by omega) ?_
                        refine o_goto (t := 9) rfl rfl ?_
                        first
                          | (exfalso; omega; done)
                          | (have hz : ld = 0 ∧ (97 ≤ g 21 0 k ∧ g 21 0 k ≤ 96 + g 8 0 5) ∧ v1 < 6 := by omega
                             obtain ⟨hz, hl, h6⟩ := hz
                             subst hz
                             rw [cif_t rfl, fr_l ⟨hl, h6⟩]
                             have e := ih (k + 1) (v1 + 1) (v2 + 0) 0 (vI (g 21 0 k)) (vI 1) (by omega) (by omega) (by omega) (by omega) (by omega) (by omega) (by omega) (by omega)
                             rw [cif_t rfl] at e
                             exact e)
                          | (have hz : ld = 1 ∧ (97 ≤ g 21 0 k ∧ g 21 0 k ≤ 96 + g 8 0 5) ∧ v2 < 6 := by omega
                             obtain ⟨hz, hl, h6⟩ := hz
                             subst hz
                             rw [cif_f (by decide), fr_l ⟨hl, h6⟩]
                             have e := ih (k + 1) (v1 + 0) (v2 + 1) 1 (vI (g 21 0 k)) (vI 1) (by omega) (by omega) (by omega) (by omega) (by omega) (by omega) (by omega) (by omega)
                             rw [cif_f (by decide)] at e
                             exact e)
                          | (have hz : ld = 0 ∧ ¬ (97 ≤ g 21 0 k ∧ g 21 0 k ≤ 96 + g 8 0 5) ∧ (g 21 0 k = 62 ∨ g 21 0 k = 61) ∧ 0 < v1 ∧ v2 = 0 := by omega
                             obtain ⟨hz, hl, h6, h7, h8⟩ := hz
                             subst hz
                             subst h8
                             rw [cif_t rfl, fr_a (fun z => hl z.1) ⟨h6, rfl, h7⟩]
                             have e := ih (k + 1) (v1 + 0) (0 + 0) 1 (vI (g 21 0 k)) (vI 1) (by omega) (by omega) (by omega) (by omega) (by omega) (by omega) (by omega) (by omega)
                             rw [cif_f (by decide)] at e
                             exact e)
                  · refine o_iconst (n := 129) rfl rfl ?_
                    refine o_goto (t := 133) rfl rfl ?_
                    refine o_iadd (n := 134) rfl rfl (by omega) ?_
                    refine o_istore_1 (n := 135) rfl rfl rfl ?_
                    refine o_iload_n (n := 136) rfl rfl rfl ?_
                    refine o_aload_n (n := 137) rfl rfl rfl ?_
                    refine o_iload (n := 139) rfl rfl rfl ?_
                    refine o_invi (n := 142) rfl rfl rfl rfl rfl rfl rfl rfl rfl rfl (c8_isSign _ hs0 hs1) ?_
                    refine o_ifb_eq (n := 145) (t := 153) rfl rfl rfl (fun k142 => ?_) (fun k142 => ?_)
                    · refine o_iconst (n := 154) rfl rfl ?_
                      refine o_iadd (n := 155) rfl rfl (by omega) ?_
                      refine o_istore_2 (n := 156) rfl rfl rfl ?_
                      refine o_iinc_4 (n := 159) rfl rfl rfl (by omega) ?_
                      refine o_goto (t := 9) rfl rfl ?_
                      first
                        | (exfalso; omega; done)
                        | (have hz : ld = 0 ∧ (97 ≤ g 21 0 k ∧ g 21 0 k ≤ 96 + g 8 0 5) ∧ v1 < 6 := by omega
                           obtain ⟨hz, hl, h6⟩ := hz
                           subst hz
                           rw [cif_t rfl, fr_l ⟨hl, h6⟩]
                           have e := ih (k + 1) (v1 + 1) (v2 + 0) 0 (vI (g 21 0 k)) (vI 1) (by omega) (by omega) (by omega) (by omega) (by omega) (by omega) (by omega) (by omega)
                           rw [cif_t rfl] at e
                           exact e)
                        | (have hz : ld = 1 ∧ (97 ≤ g 21 0 k ∧ g 21 0 k ≤ 96 + g 8 0 5) ∧ v2 < 6 := by omega
                           obtain ⟨hz, hl, h6⟩ := hz
                           subst hz
                           rw [cif_f (by decide), fr_l ⟨hl, h6⟩]
                           have e := ih (k + 1) (v1 + 0) (v2 + 1) 1 (vI (g 21 0 k)) (vI 1) (by omega) (by omega) (by omega) (by omega) (by omega) (by omega) (by omega) (by omega)
                           rw [cif_f (by decide)] at e
                           exact e)
                        | (have hz : ld = 0 ∧ ¬ (97 ≤ g 21 0 k ∧ g 21 0 k ≤ 96 + g 8 0 5) ∧ (g 21 0 k = 62 ∨ g 21 0 k = 61) ∧ 0 < v1 ∧ v2 = 0 := by omega
                           obtain ⟨hz, hl, h6, h7, h8⟩ := hz
                           subst hz
                           subst h8
                           rw [cif_t rfl, fr_a (fun z => hl z.1) ⟨h6, rfl, h7⟩]
                           have e := ih (k + 1) (v1 + 0) (0 + 0) 1 (vI (g 21 0 k)) (vI 1) (by omega) (by omega) (by omega) (by omega) (by omega) (by omega) (by omega) (by omega)
                           rw [cif_f (by decide)] at e
                           exact e)
                    · refine o_iload_n (n := 146) rfl rfl rfl ?_
                      refine o_if_eq (n := 149) (t := 153) rfl rfl rfl (fun k146 => ?_) (fun k146 => ?_)
                      · refine o_iconst (n := 154) rfl rfl ?_
                        refine o_iadd (n := 155) rfl rfl (by omega) ?_
                        refine o_istore_2 (n := 156) rfl rfl rfl ?_
                        refine o_iinc_4 (n := 159) rfl rfl rfl (by omega) ?_
                        refine o_goto (t := 9) rfl rfl ?_
                        first
                          | (exfalso; omega; done)
                          | (have hz : ld = 0 ∧ (97 ≤ g 21 0 k ∧ g 21 0 k ≤ 96 + g 8 0 5) ∧ v1 < 6 := by omega
                             obtain ⟨hz, hl, h6⟩ := hz
                             subst hz
                             rw [cif_t rfl, fr_l ⟨hl, h6⟩]
                             have e := ih (k + 1) (v1 + 1) (v2 + 0) 0 (vI (g 21 0 k)) (vI 1) (by omega) (by omega) (by omega) (by omega) (by omega) (by omega) (by omega) (by omega)
                             rw [cif_t rfl] at e
                             exact e)
                          | (have hz : ld = 1 ∧ (97 ≤ g 21 0 k ∧ g 21 0 k ≤ 96 + g 8 0 5) ∧ v2 < 6 := by omega
                             obtain ⟨hz, hl, h6⟩ := hz
                             subst hz
                             rw [cif_f (by decide), fr_l ⟨hl, h6⟩]
                             have e := ih (k + 1) (v1 + 0) (v2 + 1) 1 (vI (g 21 0 k)) (vI 1) (by omega) (by omega) (by omega) (by omega) (by omega) (by omega) (by omega) (by omega)
                             rw [cif_f (by decide)] at e
                             exact e)
                          | (have hz : ld = 0 ∧ ¬ (97 ≤ g 21 0 k ∧ g 21 0 k ≤ 96 + g 8 0 5) ∧ (g 21 0 k = 62 ∨ g 21 0 k = 61) ∧ 0 < v1 ∧ v2 = 0 := by omega
                             obtain ⟨hz, hl, h6, h7, h8⟩ := hz
                             subst hz
                             subst h8
                             rw [cif_t rfl, fr_a (fun z => hl z.1) ⟨h6, rfl, h7⟩]
                             have e := ih (k + 1) (v1 + 0) (0 + 0) 1 (vI (g 21 0 k)) (vI 1) (by omega) (by omega) (by omega) (by omega) (by omega) (by omega) (by omega) (by omega)
                             rw [cif_f (by decide)] at e
                             exact e)
                      · refine o_iconst (n := 150) rfl rfl ?_
                        refine o_goto (t := 154) rfl rfl ?_
                        refine o_iadd (n := 155) rfl rfl (by omega) ?_
                        refine o_istore_2 (n := 156) rfl rfl rfl ?_
                        refine o_iinc_4 (n := 159) rfl rfl rfl (by omega) ?_
                        refine o_goto (t := 9) rfl rfl ?_
                        first
                          | (exfalso; omega; done)
                          | (have hz : ld = 0 ∧ (97 ≤ g 21 0 k ∧ g 21 0 k ≤ 96 + g 8 0 5) ∧ v1 < 6 := by omega
                             obtain ⟨hz, hl, h6⟩ := hz
                             subst hz
                             rw [cif_t rfl, fr_l ⟨hl, h6⟩]
                             have e := ih (k + 1) (v1 + 1) (v2 + 0) 0 (vI (g 21 0 k)) (vI 1) (by omega) (by omega) (by omega) (by omega) (by omega) (by omega) (by omega) (by omega)
                             rw [cif_t rfl] at e
                             exact e)
                          | (have hz : ld = 1 ∧ (97 ≤ g 21 0 k ∧ g 21 0 k ≤ 96 + g 8 0 5) ∧ v2 < 6 := by omega
                             obtain ⟨hz, hl, h6⟩ := hz
                             subst hz
                             rw [cif_f (by decide), fr_l ⟨hl, h6⟩]
                             have e := ih (k + 1) (v1 + 0) (v2 + 1) 1 (vI (g 21 0 k)) (vI 1) (by omega) (by omega) (by omega) (by omega) (by omega) (by omega) (by omega) (by omega)
                             rw [cif_f (by decide)] at e
                             exact e)
                          | (have hz : ld = 0 ∧ ¬ (97 ≤ g 21 0 k ∧ g 21 0 k ≤ 96 + g 8 0 5) ∧ (g 21 0 k = 62 ∨ g 21 0 k = 61) ∧ 0 < v1 ∧ v2 = 0 := by omega
                             obtain ⟨hz, hl, h6, h7, h8⟩ := hz
                             subst hz
                             subst h8
                             rw [cif_t rfl, fr_a (fun z => hl z.1) ⟨h6, rfl, h7⟩]
                             have e := ih (k + 1) (v1 + 0) (0 + 0) 1 (vI (g 21 0 k)) (vI 1) (by omega) (by omega) (by omega) (by omega) (by omega) (by omega) (by omega) (by omega)
                             rw [cif_f (by decide)] at e
                             exact e)
          · refine o_iload (n := 94) rfl rfl rfl ?_
            refine o_iret rfl rfl ?_
            first
              | (exfalso; omega; done)
              | (refine ⟨congrArg (fun z => some (vI z)) ?_, rfl, rfl⟩
                 by_cases hz : ld = 0
                 · rw [cif_t hz, fr_x (by omega) (by omega)]
                 · rw [cif_f hz, fr_x (by omega) (by omega)])
        · refine o_iconst (n := 51) rfl rfl ?_
          refine o_goto (t := 85) rfl rfl ?_
          refine o_istore_6 (n := 87) rfl rfl rfl ?_
          refine o_iload (n := 89) rfl rfl rfl ?_
          refine o_if_ne (n := 92) (t := 95) rfl rfl rfl (fun k89 => ?_) (fun k89 => ?_)
          · refine o_iload_n (n := 96) rfl rfl rfl ?_
            refine o_if_ne (n := 99) (t := 108) rfl rfl rfl (fun k96 => ?_) (fun k96 => ?_)
            · refine o_iconst (n := 109) rfl rfl ?_
              refine o_goto (t := 113) rfl rfl ?_
              refine o_istore_3 (n := 114) rfl rfl rfl ?_
              refine o_iload_n (n := 115) rfl rfl rfl ?_
              refine o_aload_n (n := 116) rfl rfl rfl ?_
              refine o_iload (n := 118) rfl rfl rfl ?_
              refine o_invi (n := 121) rfl rfl rfl rfl rfl rfl rfl rfl rfl rfl (c8_isSign _ hs0 hs1) ?_
              refine o_ifb_eq (n := 124) (t := 132) rfl rfl rfl (fun k121 => ?_) (fun k121 => ?_)
              · refine o_iconst (n := 133) rfl rfl ?_
                refine o_iadd (n := 134) rfl rfl (by omega) ?_
                refine o_istore_1 (n := 135) rfl rfl rfl ?_
                refine o_iload_n (n := 136) rfl rfl rfl ?_
                refine o_aload_n (n := 137) rfl rfl rfl ?_
                refine o_iload (n := 139) rfl rfl rfl ?_
                refine o_invi (n := 142) rfl rfl rfl rfl rfl rfl rfl rfl rfl rfl (c8_isSign _ hs0 hs1) ?_
                refine o_ifb_eq (n := 145) (t := 153) rfl rfl rfl (fun k142 => ?_) (fun k142 => ?_)
                · refine o_iconst (n := 154) rfl rfl ?_
                  refine o_iadd (n := 155) rfl rfl (by omega) ?_
                  refine o_istore_2 (n := 156) rfl rfl rfl ?_
                  refine o_iinc_4 (n := 159) rfl rfl rfl (by omega) ?_
                  refine o_goto (t := 9) rfl rfl ?_
                  first
                    | (exfalso; omega; done)
                    | (have hz : ld = 0 ∧ (97 ≤ g 21 0 k ∧ g 21 0 k ≤ 96 + g 8 0 5) ∧ v1 < 6 := by omega
                       obtain ⟨hz, hl, h6⟩ := hz
                       subst hz
                       rw [cif_t rfl, fr_l ⟨hl, h6⟩]
                       have e := ih (k + 1) (v1 + 1) (v2 + 0) 0 (vI (g 21 0 k)) (vI 1) (by omega) (by omega) (by omega) (by omega) (by omega) (by omega) (by omega) (by omega)
                       rw [cif_t rfl] at e
                       exact e)
                    | (have hz : ld = 1 ∧ (97 ≤ g 21 0 k ∧ g 21 0 k ≤ 96 + g 8 0 5) ∧ v2 < 6 := by omega
                       obtain ⟨hz, hl, h6⟩ := hz
                       subst hz
                       rw [cif_f (by decide), fr_l ⟨hl, h6⟩]
                       have e := ih (k + 1) (v1 + 0) (v2 + 1) 1 (vI (g 21 0 k)) (vI 1) (by omega) (by omega) (by omega) (by omega) (by omega) (by omega) (by omega) (by omega)
                       rw [cif_f (by decide)] at e
                       exact e)
                    | (have hz : ld = 0 ∧ ¬ (97 ≤ g 21 0 k ∧ g 21 0 k ≤ 96 + g 8 0 5) ∧ (g 21 0 k = 62 ∨ g 21 0 k = 61) ∧ 0 < v1 ∧ v2 = 0 := by omega
                       obtain ⟨hz, hl, h6, h7, h8⟩ := hz
                       subst hz
                       subst h8
                       rw [cif_t rfl, fr_a (fun z => hl z.1) ⟨h6, rfl, h7⟩]
                       have e := ih (k + 1) (v1 + 0) (0 + 0) 1 (vI (g 21 0 k)) (vI 1) (by omega) (by omega) (by omega) (by omega) (by omega) (by omega) (by omega) (by omega)
                       rw [cif_f (by decide)] at e
                       exact e)
                · refine o_iload_n (n := 146) rfl rfl rfl ?_
                  refine o_if_eq (n := 149) (t := 153) rfl rfl rfl (fun k146 => ?_) (fun k146 => ?_)
                  · refine o_iconst (n := 154) rfl rfl ?_
                    refine o_iadd (n := 155) rfl rfl (by omega) ?_
                    refine o_istore_2 (n := 156) rfl rfl rfl ?_
                    refine o_iinc_4 (n := 159) rfl rfl rfl (by omega) ?_
                    refine o_goto (t := 9) rfl rfl ?_
                    first
                      | (exfalso; omega; done)
                      | (have hz : ld = 0 ∧ (97 ≤ g 21 0 k ∧ g 21 0 k ≤ 96 + g 8 0 5) ∧ v1 < 6 := by omega
                         obtain ⟨hz, hl, h6⟩ := hz
                         subst hz
                         rw [cif_t rfl, fr_l ⟨hl, h6⟩]
                         have e := ih (k + 1) (v1 + 1) (v2 + 0) 0 (vI (g 21 0 k)) (vI 1) (by omega) (by omega) (by omega) (by omega) (by omega) (by omega) (by omega) (by omega)
                         rw [cif_t rfl] at e
                         exact e)
                      | (have hz : ld = 1 ∧ (97 ≤ g 21 0 k ∧ g 21 0 k ≤ 96 + g 8 0 5) ∧ v2 < 6 := by omega
                         obtain ⟨hz, hl, h6⟩ := hz
                         subst hz
                         rw [cif_f (by decide), fr_l ⟨hl, h6⟩]
                         have e := ih (k + 1) (v1 + 0) (v2 + 1) 1 (vI (g 21 0 k)) (vI 1) (by omega) (by omega) (by omega) (by omega) (by omega) (by omega) (by omega) (by omega)
                         rw [cif_f (by decide)] at e
                         exact e)
                      | (have hz : ld = 0 ∧ ¬ (97 ≤ g 21 0 k ∧ g 21 0 k ≤ 96 + g 8 0 5) ∧ (g 21 0 k = 62 ∨ g 21 0 k = 61) ∧ 0 < v1 ∧ v2 = 0 := by omega
                         obtain ⟨hz, hl, h6, h7, h8⟩ := hz
                         subst hz
                         subst h8
                         rw [cif_t rfl, fr_a (fun z => hl z.1) ⟨h6, rfl, h7⟩]
                         have e := ih (k + 1) (v1 + 0) (0 + 0) 1 (vI (g 21 0 k)) (vI 1) (by omega) (by omega) (by omega) (by omega) (by omega) (by omega) (by omega) (by omega)
                         rw [cif_f (by decide)] at e
                         exact e)
                  · refine o_iconst (n := 150) rfl rfl ?_
                    refine o_goto (t := 154) rfl rfl ?_
                    refine o_iadd (n := 155) rfl rfl (by omega) ?_
                    refine o_istore_2 (n := 156) rfl rfl rfl ?_
                    refine o_iinc_4 (n := 159) rfl rfl rfl (by omega) ?_
                    refine o_goto (t := 9) rfl rfl ?_
                    first
                      | (exfalso; omega; done)
                      | (have hz : ld = 0 ∧ (97 ≤ g 21 0 k ∧ g 21 0 k ≤ 96 + g 8 0 5) ∧ v1 < 6 := by omega
                         obtain ⟨hz, hl, h6⟩ := hz
                         subst hz
                         rw [cif_t rfl, fr_l ⟨hl, h6⟩]
                         have e := ih (k + 1) (v1 + 1) (v2 + 0) 0 (vI (g 21 0 k)) (vI 1) (by omega) (by omega) (by omega) (by omega) (by omega) (by omega) (by omega) (by omega)
                         rw [cif_t rfl] at e
                         exact e)
                      | (have hz : ld = 1 ∧ (97 ≤ g 21 0 k ∧ g 21 0 k ≤ 96 + g 8 0 5) ∧ v2 < 6 := by omega
                         obtain ⟨hz, hl, h6⟩ := hz
                         subst hz
                         rw [cif_f (by decide), fr_l ⟨hl, h6⟩]
                         have e := ih (k + 1) (v1 + 0) (v2 + 1) 1 (vI (g 21 0 k)) (vI 1) (by omega) (by omega) (by omega) (by omega) (by omega) (by omega) (by omega) (by omega)
                         rw [cif_f (by decide)] at e
                         exact e)
                      | (have hz : ld = 0 ∧ ¬ (97 ≤ g 21 0 k ∧ g 21 0 k ≤ 96 + g 8 0 5) ∧ (g 21 0 k = 62 ∨ g 21 0 k = 61) ∧ 0 < v1 ∧ v2 = 0 := by omega
                         obtain ⟨hz, hl, h6, h7, h8⟩ := hz
                         subst hz
                         subst h8
                         rw [cif_t rfl, fr_a (fun z => hl z.1) ⟨h6, rfl, h7⟩]
                         have e := ih (k + 1) (v1 + 0) (0 + 0) 1 (vI (g 21 0 k)) (vI 1) (by omega) (by omega) (by omega) (by omega) (by omega) (by omega) (by omega) (by omega)
                         rw [cif_f (by decide)] at e
                         exact e)
              · refine o_iload_n (n := 125) rfl rfl rfl ?_
                refine o_if_ne (n := 128) (t := 132) rfl rfl rfl (fun k125 => ?_) (fun k125 => ?_)
                · refine o_iconst (n := 133) rfl rfl ?_
                  refine o_iadd (n := 134) rfl rfl (by omega) ?_
                  refine o_istore_1 (n := 135) rfl rfl rfl ?_
                  refine o_iload_n (n := 136) rfl rfl rfl ?_
                  refine o_aload_n (n := 137) rfl rfl rfl ?_
                  refine o_iload (n := 139) rfl rfl rfl ?_
                  refine o_invi (n := 142) rfl rfl rfl rfl rfl rfl rfl rfl rfl rfl (c8_isSign _ hs0 hs1) ?_
                  refine o_ifb_eq (n := 145) (t := 153) rfl rfl rfl (fun k142 => ?_) (fun k142 => ?_)
                  · refine o_iconst (n := 154) rfl rfl ?_
                    refine o_iadd (n := 155) rfl rfl (by omega) ?_
                    refine o_istore_2 (n := 156) rfl rfl rfl ?_
                    refine o_iinc_4 (n := 159) rfl rfl rfl (by omega) ?_
                    refine o_goto (t := 9) rfl rfl ?_
                    first
                      | (exfalso; omega; done)
                      | (have hz : ld = 0 ∧ (97 ≤ g 21 0 k ∧ g 21 0 k ≤ 96 + g 8 0 5) ∧ v1 < 6 := by omega
                         obtain ⟨hz, hl, h6⟩ := hz
                         subst hz
                         rw [cif_t rfl, fr_l ⟨hl, h6⟩]
                         have e := ih (k + 1) (v1 + 1) (v2 + 0) 0 (vI (g 21 0 k)) (vI 1) (by omega) (by omega) (by omega) (by omega) (by omega) (by omega) (by omega) (by omega)
                         rw [cif_t rfl] at e
                         exact e)
                      | (have hz : ld = 1 ∧ (97 ≤ g 21 0 k ∧ g 21 0 k ≤ 96 + g 8 0 5) ∧ v2 < 6 := by omega
                         obtain ⟨hz, hl, h6⟩ := hz
                         subst hz
                         rw [cif_f (by decide), fr_l ⟨hl, h6⟩]
                         have e := ih (k + 1) (v1 + 0) (v2 + 1) 1 (vI (g 21 0 k)) (vI 1) (by omega) (by omega) (by omega) (by omega) (by omega) (by omega) (by omega) (by omega)
                         rw [cif_f (by decide)] at e
                         exact e)
                      | (have hz : ld = 0 ∧ ¬ (97 ≤ g 21 0 k ∧ g 21 0 k ≤ 96 + g 8 0 5) ∧ (g 21 0 k = 62 ∨ g 21 0 k = 61) ∧ 0 < v1 ∧ v2 = 0 := by omega
                         obtain ⟨hz, hl, h6, h7, h8⟩ := hz
                         subst hz
                         subst h8
                         rw [cif_t rfl, fr_a (fun z => hl z.1) ⟨h6, rfl, h7⟩]
                         have e := ih (k + 1) (v1 + 0) (0 + 0) 1 (vI (g 21 0 k)) (vI 1) (by omega) (by omega) (by omega) (by omega) (by omega) (by omega) (by omega) (by omega)
                         rw [cif_f (by decide)] at e
                         exact e)
                  · refine o_iload_n (n := 146) rfl rfl rfl ?_
                    refine o_if_eq (n := 149) (t := 153) rfl rfl rfl (fun k146 => ?_) (fun k146 => ?_)
                    · refine o_iconst (n := 154) rfl rfl ?_
                      refine o_iadd (n := 155) rfl rfl (by omega) ?_
                      refine o_istore_2 (n := 156) rfl rfl rfl ?_
                      refine o_iinc_4 (n := 159) rfl rfl rfl (by omega) ?_
                      refine o_goto (t := 9) rfl rfl ?_
                      first
                        | (exfalso; omega; done)
                        | (have hz : ld = 0 ∧ (97 ≤ g 21 0 k ∧ g 21 0 k ≤ 96 + g 8 0 5) ∧ v1 < 6 := by omega
                           obtain ⟨hz, hl, h6⟩ := hz
                           subst hz
                           rw [cif_t rfl, fr_l ⟨hl, h6⟩]
                           have e := ih (k + 1) (v1 + 1) (v2 + 0) 0 (vI (g 21 0 k)) (vI 1) (by omega) (by omega) (by omega) (by omega) (by omega) (by omega) (by omega) (by omega)
                           rw [cif_t rfl] at e
                           exact e)
                        | (have hz : ld = 1 ∧ (97 ≤ g 21 0 k ∧ g 21 0 k ≤ 96 + g 8 0 5) ∧ v2 < 6 := by omega
                           obtain ⟨hz, hl, h6⟩ := hz
                           subst hz
                           rw [cif_f (by decide), fr_l ⟨hl, h6⟩]
                           have e := ih (k + 1) (v1 + 0) (v2 + 1) 1 (vI (g 21 0 k)) (vI 1) (by omega) (by omega) (by omega) (by omega) (by omega) (by omega) (by omega) (by omega)
                           rw [cif_f (by decide)] at e
                           exact e)
                        | (have hz : ld = 0 ∧ ¬ (97 ≤ g 21 0 k ∧ g 21 0 k ≤ 96 + g 8 0 5) ∧ (g 21 0 k = 62 ∨ g 21 0 k = 61) ∧ 0 < v1 ∧ v2 = 0 := by omega
                           obtain ⟨hz, hl, h6, h7, h8⟩ := hz
                           subst hz
                           subst h8
                           rw [cif_t rfl, fr_a (fun z => hl z.1) ⟨h6, rfl, h7⟩]
                           have e := ih (k + 1) (v1 + 0) (0 + 0) 1 (vI (g 21 0 k)) (vI 1) (by omega) (by omega) (by omega) (by omega) (by omega) (by omega) (by omega) (by omega)
                           rw [cif_f (by decide)] at e
                           exact e)
                    · refine o_iconst (n := 150) rfl rfl ?_
                      refine o_goto (t := 154) rfl rfl ?_
                      refine o_iadd (n := 155) rfl rfl (by omega) ?_
                      refine o_istore_2 (n := 156) rfl rfl rfl ?_
                      refine o_iinc_4 (n := 159) rfl rfl rfl (by omega) ?_
                      refine o_goto (t := 9) rfl rfl ?_
                      first
                        | (exfalso; omega; done)
                        | (have hz : ld = 0 ∧ (97 ≤ g 21 0 k ∧ g 21 0 k ≤ 96 + g 8 0 5) ∧ v1 < 6 := by omega
                           obtain ⟨hz, hl, h6⟩ := hz
                           subst hz
                           rw [cif_t rfl, fr_l ⟨hl, h6⟩]
                           have e := ih (k + 1) (v1 + 1) (v2 + 0) 0 (vI (g 21 0 k)) (vI 1) (by omega) (by omega) (by omega) (by omega) (by omega) (by omega) (by omega) (by omega)
                           rw [cif_t rfl] at e
                           exact e)
                        | (have hz : ld = 1 ∧ (97 ≤ g 21 0 k ∧ g 21 0 k ≤ 96 + g 8 0 5) ∧ v2 < 6 := by omega
                           obtain ⟨hz, hl, h6⟩ := hz
                           subst hz
                           rw [cif_f (by decide), fr_l ⟨hl, h6⟩]
                           have e := ih (k + 1) (v1 + 0) (v2 + 1) 1 (vI (g 21 0 k)) (vI 1) (by omega) (by omega) (by omega) (by omega) (by omega) (by omega) (by omega) (by omega)
                           rw [cif_f (by decide)] at e
                           exact e)
                        | (have hz : ld = 0 ∧ ¬ (97 ≤ g 21 0 k ∧ g 21 0 k ≤ 96 + g 8 0 5) ∧ (g 21 0 k = 62 ∨ g 21 0 k = 61) ∧ 0 < v1 ∧ v2 = 0 := by omega
                           obtain ⟨hz, hl, h6, h7, h8⟩ := hz
                           subst hz
                           subst h8
                           rw [cif_t rfl, fr_a (fun z => hl z.1) ⟨h6, rfl, h7⟩]
                           have e := ih (k + 1) (v1 + 0) (0 + 0) 1 (vI (g 21 0 k)) (vI 1) (by omega) (by omega) (by omega) (by omega) (by omega) (by omega) (by omega) (by omega)
                           rw [cif_f (by decide)] at e
                           exact e)
                · refine o_iconst (n := 129) rfl rfl ?_
                  refine o_goto (t := 133) rfl rfl ?_
                  refine o_iadd (n := 134) rfl rfl (by omega) ?_
                  refine o_istore_1 (n := 135) rfl rfl rfl ?_
                  refine o_iload_n (n := 136) rfl rfl rfl ?_
                  refine o_aload_n (n := 137) rfl rfl rfl ?_
                  refine o_iload (n := 139) rfl rfl rfl ?_
                  refine o_invi (n := 142) rfl rfl rfl rfl rfl rfl rfl rfl rfl rfl (c8_isSign _ hs0 hs1) ?_
                  refine o_ifb_eq (n := 145) (t := 153) rfl rfl rfl (fun k142 => ?_) (fun k142 => ?_)
                  · refine o_iconst (n := 154) rfl rfl ?_
                    refine o_iadd (n := 155) rfl rfl (by omega) ?_
                    refine o_istore_2 (n := 156) rfl rfl rfl ?_
                    refine o_iinc_4 (n := 159) rfl rfl rfl (by omega) ?_
                    refine o_goto (t := 9) rfl rfl ?_
                    first
                      | (exfalso; omega; done)
                      | (have hz : ld = 0 ∧ (97 ≤ g 21 0 k ∧ g 21 0 k ≤ 96 + g 8 0 5) ∧ v1 < 6 := by omega
                         obtain ⟨hz, hl, h6⟩ := hz
                         subst hz
                         rw [cif_t rfl, fr_l ⟨hl, h6⟩]
                         have e := ih (k + 1) (v1 + 1) (v2 + 0) 0 (vI (g 21 0 k)) (vI 1) (by omega) (by omega) (by omega) (by omega) (by omega) (by omega) (by omega) (by omega)
                         rw [cif_t rfl] at e
                         exact e)
                      | (have hz : ld = 1 ∧ (97 ≤ g 21 0 k ∧ g 21 0 k ≤ 96 + g 8 0 5) ∧ v2 < 6 := by omega
                         obtain ⟨hz, hl, h6⟩ := hz
                         subst hz
                         rw [cif_f (by decide), fr_l ⟨hl, h6⟩]
                         have e := ih (k + 1) (v1 + 0) (v2 + 1) 1 (vI (g 21 0 k)) (vI 1) (by omega) (by omega) (by omega) (by omega) (by omega) (by omega) (by omega) (by omega)
                         rw [cif_f (by decide)] at e
                         exact e)
                      | (have hz : ld = 0 ∧ ¬ (97 ≤ g 21 0 k ∧ g 21 0 k ≤ 96 + g 8 0 5) ∧ (g 21 0 k = 62 ∨ g 21 0 k = 61) ∧ 0 < v1 ∧ v2 = 0 := by omega
                         obtain ⟨hz, hl, h6, h7, h8⟩ := hz
                         subst hz
                         subst h8
                         rw [cif_t rfl, fr_a (fun z => hl z.1) ⟨h6, rfl, h7⟩]
                         have e := ih (k + 1) (v1 + 0) (0 + 0) 1 (vI (g 21 0 k)) (vI 1) (by omega) (by omega) (by omega) (by omega) (by omega) (by omega) (by omega) (by omega)
                         rw [cif_f (by decide)] at e
                         exact e)
                  · refine o_iload_n (n := 146) rfl rfl rfl ?_
                    refine o_if_eq (n := 149) (t := 153) rfl rfl rfl (fun k146 => ?_) (fun k146 => ?_)
                    · refine o_iconst (n := 154) rfl rfl ?_
                      refine o_iadd (n := 155) rfl rfl (by omega) ?_
                      refine o_istore_2 (n := 156) rfl rfl rfl ?_
                      refine o_iinc_4 (n := 159) rfl rfl rfl (by omega) ?_
                      refine o_goto (t := 9) rfl rfl ?_
                      first
                        | (exfalso; omega; done)
                        | (have hz : ld = 0 ∧ (97 ≤ g 21 0 k ∧ g 21 0 k ≤ 96 + g 8 0 5) ∧ v1 < 6 := by omega
                           obtain ⟨hz, hl, h6⟩ := hz
                           subst hz
                           rw [cif_t rfl, fr_l ⟨hl, h6⟩]
                           have e := ih (k + 1) (v1 + 1) (v2 + 0) 0 (vI (g 21 0 k)) (vI 1) (by omega) (by omega) (by omega) (by omega) (by omega) (by omega) (by omega) (by omega)
                           rw [cif_t rfl] at e
                           exact e)
                        | (have hz : ld = 1 ∧ (97 ≤ g 21 0 k ∧ g 21 0 k ≤ 96 + g 8 0 5) ∧ v2 < 6 := by omega
                           obtain ⟨hz, hl, h6⟩ := hz
                           subst hz
                           rw [cif_f (by decide), fr_l ⟨hl, h6⟩]
                           have e := ih (k + 1) (v1 + 0) (v2 + 1) 1 (vI (g 21 0 k)) (vI 1) (by omega) (by omega) (by omega) (by omega) (by omega) (by omega) (by omega) (by omega)
                           rw [cif_f (by decide)] at e
                           exact e)
                        | (have hz : ld = 0 ∧ ¬ (97 ≤ g 21 0 k ∧ g 21 0 k ≤ 96 + g 8 0 5) ∧ (g 21 0 k = 62 ∨ g 21 0 k = 61) ∧ 0 < v1 ∧ v2 = 0 := by omega
                           obtain ⟨hz, hl, h6, h7, h8⟩ := hz
                           subst hz
                           subst h8
                           rw [cif_t rfl, fr_a (fun z => hl z.1) ⟨h6, rfl, h7⟩]
                           have e := ih (k + 1) (v1 + 0) (0 + 0) 1 (vI (g 21 0 k)) (vI 1) (by omega) (by omega) (by omega) (by omega) (by omega) (by omega) (by omega) (by omega)
                           rw [cif_f (by decide)] at e
                           exact e)
                    · refine o_iconst (n := 150) rfl rfl ?_
                      refine o_goto (t := 154) rfl rfl ?_
                      refine o_iadd (n := 155) rfl rfl (by omega) ?_
                      refine o_istore_2 (n := 156) rfl rfl rfl ?_
                      refine o_iinc_4 (n := 159) rfl rfl rfl (by omega) ?_
                      refine o_goto (t := 9) rfl rfl ?_
                      first
                        | (exfalso; omega; done)
                        | (have hz : ld = 0 ∧ (97 ≤ g 21 0 k ∧ g 21 0 k ≤ 96 + g 8 0 5) ∧ v1 < 6 := by omega
                           obtain ⟨hz, hl, h6⟩ := hz
                           subst hz
                           rw [cif_t rfl, fr_l ⟨hl, h6⟩]
                           have e := ih (k + 1) (v1 + 1) (v2 + 0) 0 (vI (g 21 0 k)) (vI 1) (by omega) (by omega) (by omega) (by omega) (by omega) (by omega) (by omega) (by omega)
                           rw [cif_t rfl] at e
                           exact e)
                        | (have hz : ld = 1 ∧ (97 ≤ g 21 0 k ∧ g 21 0 k ≤ 96 + g 8 0 5) ∧ v2 < 6 := by omega
                           obtain ⟨hz, hl, h6⟩ := hz
                           subst hz
                           rw [cif_f (by decide), fr_l ⟨hl, h6⟩]
                           have e := ih (k + 1) (v1 + 0) (v2 + 1) 1 (vI (g 21 0 k)) (vI 1) (by omega) (by omega) (by omega) (by omega) (by omega) (by omega) (by omega) (by omega)
                           rw [cif_f (by decide)] at e
                           exact e)
                        | (have hz : ld = 0 ∧ ¬ (97 ≤ g 21 0 k ∧ g 21 0 k ≤ 96 + g 8 0 5) ∧ (g 21 0 k = 62 ∨ g 21 0 k = 61) ∧ 0 < v1 ∧ v2 = 0 := by omega
                           obtain ⟨hz, hl, h6, h7, h8⟩ := hz
                           subst hz
                           subst h8
                           rw [cif_t rfl, fr_a (fun z => hl z.1) ⟨h6, rfl, h7⟩]
                           have e := ih (k + 1) (v1 + 0) (0 + 0) 1 (vI (g 21 0 k)) (vI 1) (by omega) (by omega) (by omega) (by omega) (by omega) (by omega) (by omega) (by omega)
                           rw [cif_f (by decide)] at e
                           exact e)
            · refine o_aload_n (n := 100) rfl rfl rfl ?_
              refine o_iload (n := 102) rfl rfl rfl ?_
              refine o_invi (n := 105) rfl rfl rfl rfl rfl rfl rfl rfl rfl rfl (c8_isSign _ hs0 hs1) ?_
              refine o_ifb_ne (n := 108) (t := 112) rfl rfl rfl (fun k105 => ?_) (fun k105 => ?_)
              · refine o_iconst (n := 113) rfl rfl ?_
                refine o_istore_3 (n := 114) rfl rfl rfl ?_
                refine o_iload_n (n := 115) rfl rfl rfl ?_
                refine o_aload_n (n := 116) rfl rfl rfl ?_
                refine o_iload (n := 118) rfl rfl rfl ?_
                refine o_invi (n := 121) rfl rfl rfl rfl rfl rfl rfl rfl rfl rfl (c8_isSign _ hs0 hs1) ?_
                refine o_ifb_eq (n := 124) (t := 132) rfl rfl rfl (fun k121 => ?_) (fun k121 => ?_)
                · refine o_iconst (n := 133) rfl rfl ?_
                  refine o_iadd (n := 134) rfl rfl (by omega) ?_
                  refine o_istore_1 (n := 135) rfl rfl rfl ?_
                  refine o_iload_n (n := 136) rfl rfl rfl ?_
                  refine o_aload_n (n := 137) rfl rfl rfl ?_
                  refine o_iload (n := 139) rfl rfl rfl ?_
                  refine o_invi (n := 142) rfl rfl rfl rfl rfl rfl rfl rfl rfl rfl (c8_isSign _ hs0 hs1) ?_
                  refine o_ifb_eq (n := 145) (t := 153) rfl rfl rfl (fun k142 => ?_) (fun k142 => ?_)
                  · refine o_iconst (n := 154) rfl rfl ?_
                    refine o_iadd (n := 155) rfl rfl (by omega) ?_
                    refine o_istore_2 (n := 156) rfl rfl rfl ?_
                    refine o_iinc_4 (n := 159) rfl rfl rfl (by omega) ?_
                    refine o_goto (t := 9) rfl rfl ?_
                    first
                      | (exfalso; omega; done)
                      | (have hz : ld = 0 ∧ (97 ≤ g 21 0 k ∧ g 21 0 k ≤ 96 + g 8 0 5) ∧ v1 < 6 := by omega
                         obtain ⟨hz, hl, h6⟩ := hz
                         subst hz
                         rw [cif_t rfl, fr_l ⟨hl, h6⟩]
                         have e := ih (k + 1) (v1 + 1) (v2 + 0) 0 (vI (g 21 0 k)) (vI 1) (by omega) (by omega) (by omega) (by omega) (by omega) (by omega) (by omega) (by omega)
                         rw [cif_t rfl] at e
                         exact e)
                      | (have hz : ld = 1 ∧ (97 ≤ g 21 0 k ∧ g 21 0 k ≤ 96 + g 8 0 5) ∧ v2 < 6 := by omega
                         obtain ⟨hz, hl, h6⟩ := hz
                         subst hz
                         rw [cif_f (by decide), fr_l ⟨hl, h6⟩]
                         have e := ih (k + 1) (v1 + 0) (v2 + 1) 1 (vI (g 21 0 k)) (vI 1) (by omega) (by omega) (by omega) (by omega) (by omega) (by omega) (by omega) (by omega)
                         rw [cif_f (by decide)] at e
                         exact e)
                      | (have hz : ld = 0 ∧ ¬ (97 ≤ g 21 0 k ∧ g 21 0 k ≤ 96 + g 8 0 5) ∧ (g 21 0 k = 62 ∨ g 21 0 k = 61) ∧ 0 < v1 ∧ v2 = 0 := by omega
                         obtain ⟨hz, hl, h6, h7, h8⟩ := hz
                         subst hz
                         subst h8
                         rw [cif_t rfl, fr_a (fun z => hl z.1) ⟨h6, rfl, h7⟩]
                         have e := ih (k + 1) (v1 + 0) (0 + 0) 1 (vI (g 21 0 k)) (vI 1) (by omega) (by omega) (by omega) (by omega) (by omega) (by omega) (by omega) (by omega)
                         rw [cif_f (by decide)] at e
                         exact e)
                  · refine o_iload_n (n := 146) rfl rfl rfl ?_
                    refine o_if_eq (n := 149) (t := 153) rfl rfl rfl (fun k146 => ?_) (fun k146 => ?_)
                    · refine o_iconst (n := 154) rfl rfl ?_
                      refine o_iadd (n := 155) rfl rfl (by omega) ?_
                      refine o_istore_2 (n := 156) rfl rfl rfl ?_
                      refine o_iinc_4 (n := 159) rfl rfl rfl (by omega) ?_
                      refine o_goto (t := 9) rfl rfl ?_
                      first
                        | (exfalso; omega; done)
                        | (have hz : ld = 0 ∧ (97 ≤ g 21 0 k ∧ g 21 0 k ≤ 96 + g 8 0 5) ∧ v1 < 6 := by omega
                           obtain ⟨hz, hl, h6⟩ := hz
                           subst hz
                           rw [cif_t rfl, fr_l ⟨hl, h6⟩]
                           have e := ih (k + 1) (v1 + 1) (v2 + 0) 0 (vI (g 21 0 k)) (vI 1) (by omega) (by omega) (by omega) (by omega) (by omega) (by omega) (by omega) (by omega)
                           rw [cif_t rfl] at e
                           exact e)
                        | (have hz : ld = 1 ∧ (97 ≤ g 21 0 k ∧ g 21 0 k ≤ 96 + g 8 0 5) ∧ v2 < 6 := by omega
                           obtain ⟨hz, hl, h6⟩ := hz
                           subst hz
                           rw [cif_f (by decide), fr_l ⟨hl, h6⟩]
                           have e := ih (k + 1) (v1 + 0) (v2 + 1) 1 (vI (g 21 0 k)) (vI 1) (by omega) (by omega) (by omega) (by omega) (by omega) (by omega) (by omega) (by omega)
                           rw [cif_f (by decide)] at e
                           exact e)
                        | (have hz : ld = 0 ∧ ¬ (97 ≤ g 21 0 k ∧ g 21 0 k ≤ 96 + g 8 0 5) ∧ (g 21 0 k = 62 ∨ g 21 0 k = 61) ∧ 0 < v1 ∧ v2 = 0 := by omega
                           obtain ⟨hz, hl, h6, h7, h8⟩ := hz
                           subst hz
                           subst h8
                           rw [cif_t rfl, fr_a (fun z => hl z.1) ⟨h6, rfl, h7⟩]
                           have e := ih (k + 1) (v1 + 0) (0 + 0) 1 (vI (g 21 0 k)) (vI 1) (by omega) (by omega) (by omega) (by omega) (by omega) (by omega) (by omega) (by omega)
                           rw [cif_f (by decide)] at e
                           exact e)
                    · refine o_iconst (n := 150) rfl rfl ?_
                      refine o_goto (t := 154) rfl rfl ?_
                      refine o_iadd (n := 155) rfl rfl (by omega) ?_
                      refine o_istore_2 (n := 156) rfl rfl rfl ?_
                      refine o_iinc_4 (n := 159) rfl rfl rfl (by omega) ?_
                      refine o_goto (t := 9) rfl rfl ?_
                      first
                        | (exfalso; omega; done)
                        | (have hz : ld = 0 ∧ (97 ≤ g 21 0 k ∧ g 21 0 k ≤ 96 + g 8 0 5) ∧ v1 < 6 := by omega
                           obtain ⟨hz, hl, h6⟩ := hz
                           subst hz
                           rw [cif_t rfl, fr_l ⟨hl, h6⟩]
                           have e := ih (k + 1) (v1 + 1) (v2 + 0) 0 (vI (g 21 0 k)) (vI 1) (by omega) (by omega) (by omega) (by omega) (by omega) (by omega) (by omega) (by omega)
                           rw [cif_t rfl] at e
                           exact e)
                        | (have hz : ld = 1 ∧ (97 ≤ g 21 0 k ∧ g 21 0 k ≤ 96 + g 8 0 5) ∧ v2 < 6 := by omega
                           obtain ⟨hz, hl, h6⟩ := hz
                           subst hz
                           rw [cif_f (by decide), fr_l ⟨hl, h6⟩]
                           have e := ih (k + 1) (v1 + 0) (v2 + 1) 1 (vI (g 21 0 k)) (vI 1) (by omega) (by omega) (by omega) (by omega) (by omega) (by omega) (by omega) (by omega)
                           rw [cif_f (by decide)] at e
                           exact e)
                        | (have hz : ld = 0 ∧ ¬ (97 ≤ g 21 0 k ∧ g 21 0 k ≤ 96 + g 8 0 5) ∧ (g 21 0 k = 62 ∨ g 21 0 k = 61) ∧ 0 < v1 ∧ v2 = 0 := by omega
                           obtain ⟨hz, hl, h6, h7, h8⟩ := hz
                           subst hz
                           subst h8
                           rw [cif_t rfl, fr_a (fun z => hl z.1) ⟨h6, rfl, h7⟩]
                           have e := ih (k + 1) (v1 + 0) (0 + 0) 1 (vI (g 21 0 k)) (vI 1) (by omega) (by omega) (by omega) (by omega) (by omega) (by omega) (by omega) (by omega)
                           rw [cif_f (by decide)] at e
                           exact e)
                · refine o_iload_n (n := 125) rfl rfl rfl ?_
                  refine o_if_ne (n := 128) (t := 132) rfl rfl rfl (fun k125 => ?_) (fun k125 => ?_)
                  · refine o_iconst (n := 133) rfl rfl ?_
                    refine o_iadd (n := 134) rfl rfl (by omega) ?_
                    refine o_istore_1 (n := 135) rfl rfl rfl ?_
                    refine o_iload_n (n := 136) rfl rfl rfl ?_
                    refine o_aload_n (n := 137) rfl rfl rfl ?_
                    refine o_iload (n := 139) rfl rfl rfl ?_
                    refine o_invi (n := 142) rfl rfl rfl rfl rfl rfl rfl rfl rfl rfl (c8_isSign _ hs0 hs1) ?_
                    refine o_ifb_eq (n := 145) (t := 153) rfl rfl rfl (fun k142 => ?_) (fun k142 => ?_)
                    · refine o_iconst (n := 154) rfl rfl ?_
                      refine o_iadd (n := 155) rfl rfl (by omega) ?_
                      refine o_istore_2 (n := 156) rfl rfl rfl ?_
                      refine o_iinc_4 (n := 159) rfl rfl rfl (by omega) ?_
                      refine o_goto (t := 9) rfl rfl ?_
                      first
                        | (exfalso; omega; done)
                        | (have hz : ld = 0 ∧ (97 ≤ g 21 0 k ∧ g 21 0 k ≤ 96 + g 8 0 5) ∧ v1 < 6 := by omega
                           obtain ⟨hz, hl, h6⟩ := hz
                           subst hz
                           rw [cif_t rfl, fr_l ⟨hl, h6⟩]
                           have e := ih (k + 1) (v1 + 1) (v2 + 0) 0 (vI (g 21 0 k)) (vI 1) (by omega) (by omega) (by omega) (by omega) (by omega) (by omega) (by omega) (by omega)
                           rw [cif_t rfl] at e
                           exact e)
                        | (have hz : ld = 1 ∧ (97 ≤ g 21 0 k ∧ g 21 0 k ≤ 96 + g 8 0 5) ∧ v2 < 6 := by omega
                           obtain ⟨hz, hl, h6⟩ := hz
                           subst hz
                           rw [cif_f (by decide), fr_l ⟨hl, h6⟩]
                           have e := ih (k + 1) (v1 + 0) (v2 + 1) 1 (vI (g 21 0 k)) (vI 1) (by omega) (by omega) (by omega) (by omega) (by omega) (by omega) (by omega) (by omega)
                           rw [cif_f (by decide)] at e
                           exact e)
                        | (have hz : ld = 0 ∧ ¬ (97 ≤ g 21 0 k ∧ g 21 0 k ≤ 96 + g 8 0 5) ∧ (g 21 0 k = 62 ∨ g 21 0 k = 61) ∧ 0 < v1 ∧ v2 = 0 := by omega
                           obtain ⟨hz, hl, h6, h7, h8⟩ := hz
                           subst hz
                           subst h8
                           rw [cif_t rfl, fr_a (fun z => hl z.1) ⟨h6, rfl, h7⟩]
                           have e := ih (k + 1) (v1 + 0) (0 + 0) 1 (vI (g 21 0 k)) (vI 1) (by omega) (by omega) (by omega) (by omega) (by omega) (by omega) (by omega) (by omega)
                           rw [cif_f (by decide)] at e
                           exact e)
                    · refine o_iload_n (n := 146) rfl rfl rfl ?_
                      refine o_if_eq (n := 149) (t := 153) rfl rfl rfl (fun k146 => ?_) (fun k146 => ?_)
                      · refine o_iconst (n := 154) rfl rfl ?_
                        refine o_iadd (n := 155) rfl rfl (by omega) ?_
                        refine o_istore_2 (n := 156) rfl rfl rfl ?_
                        refine o_iinc_4 (n := 159) rfl rfl rfl (by omega) ?_
                        refine o_goto (t := 9) rfl rfl ?_
                        first
                          | (exfalso; omega; done)
                          | (have hz : ld = 0 ∧ (97 ≤ g 21 0 k ∧ g 21 0 k ≤ 96 + g 8 0 5) ∧ v1 < 6 := by omega
                             obtain ⟨hz, hl, h6⟩ := hz
                             subst hz
                             rw [cif_t rfl, fr_l ⟨hl, h6⟩]
                             have e := ih (k + 1) (v1 + 1) (v2 + 0) 0 (vI (g 21 0 k)) (vI 1) (by omega) (by omega) (by omega) (by omega) (by omega) (by omega) (by omega) (by omega)
                             rw [cif_t rfl] at e
                             exact e)
                          | (have hz : ld = 1 ∧ (97 ≤ g 21 0 k ∧ g 21 0 k ≤ 96 + g 8 0 5) ∧ v2 < 6 := by omega
                             obtain ⟨hz, hl, h6⟩ := hz
                             subst hz
                             rw [cif_f (by decide), fr_l ⟨hl, h6⟩]
                             have e := ih (k + 1) (v1 + 0) (v2 + 1) 1 (vI (g 21 0 k)) (vI 1) (by omega) (by omega) (by omega) (by omega) (by omega) (by omega) (by omega) (by omega)
                             rw [cif_f (by decide)] at e
                             exact e)
                          | (have hz : ld = 0 ∧ ¬ (97 ≤ g 21 0 k ∧ g 21 0 k ≤ 96 + g 8 0 5) ∧ (g 21 0 k = 62 ∨ g 21 0 k = 61) ∧ 0 < v1 ∧ v2 = 0 := by omega
                             obtain ⟨hz, hl, h6, h7, h8⟩ := hz
                             subst hz
                             subst h8
                             rw [cif_t rfl, fr_a (fun z => hl z.1) ⟨h6, rfl, h7⟩]
                             have e := ih (k + 1) (v1 + 0) (0 + 0) 1 (vI (g 21 0 k)) (vI 1) (by omega) (by omega) (by omega) (by omega) (by omega) (by omega) (by omega) (by omega)
                             rw [cif_f (by decide)] at e
                             exact e)
                      · refine o_iconst (n := 150) rfl rfl ?_
                        refine o_goto (t := 154) rfl rfl ?_
                        refine o_iadd (n := 155) rfl rfl (by omega) ?_
                        refine o_istore_2 (n := 156) rfl rfl rfl ?_
                        refine o_iinc_4 (n := 159) rfl rfl rfl (by omega) ?_
                        refine o_goto (t := 9) rfl rfl ?_
                        first
                          | (exfalso; omega; done)
                          | (have hz : ld = 0 ∧ (97 ≤ g 21 0 k ∧ g 21 0 k ≤ 96 + g 8 0 5) ∧ v1 < 6 := by omega
                             obtain ⟨hz, hl, h6⟩ := hz
                             subst hz
                             rw [cif_t rfl, fr_l ⟨hl, h6⟩]
                             have e := ih (k + 1) (v1 + 1) (v2 + 0) 0 (vI (g 21 0 k)) (vI 1) (by omega) (by omega) (by omega) (by omega) (by omega) (by omega) (by omega) (by omega)
                             rw [cif_t rfl] at e
                             exact e)
                          | (have hz : ld = 1 ∧ (97 ≤ g 21 0 k ∧ g 21 0 k ≤ 96 + g 8 0 5) ∧ v2 < 6 := by omega
                             obtain ⟨hz, hl, h6⟩ := hz
                             subst hz
                             rw [cif_f (by decide), fr_l ⟨hl, h6⟩]
                             have e := ih (k + 1) (v1 + 0) (v2 + 1) 1 (vI (g 21 0 k)) (vI 1) (by omega) (by omega) (by omega) (by omega) (by omega) (by omega) (by omega) (by omega)
                             rw [cif_f (by decide)] at e
                             exact e)
                          | (have hz : ld = 0 ∧ ¬ (97 ≤ g 21 0 k ∧ g 21 0 k ≤ 96 + g 8 0 5) ∧ (g 21 0 k = 62 ∨ g 21 0 k = 61) ∧ 0 < v1 ∧ v2 = 0 := by omega
                             obtain ⟨hz, hl, h6, h7, h8⟩ := hz
                             subst hz
                             subst h8
                             rw [cif_t rfl, fr_a (fun z => hl z.1) ⟨h6, rfl, h7⟩]
                             have e := ih (k + 1) (v1 + 0) (0 + 0) 1 (vI (g 21 0 k)) (vI 1) (by omega) (by omega) (by omega) (by omega) (by omega) (by omega) (by omega) (by omega)
                             rw [cif_f (by decide)] at e
                             exact e)
                  · refine o_iconst (n := 129) rfl rfl ?_
                    refine o_goto (t := 133) rfl rfl ?_
                    refine o_iadd (n := 134) rfl rfl (by omega) ?_
                    refine o_istore_1 (n := 135) rfl rfl rfl ?_
                    refine o_iload_n (n := 136) rfl rfl rfl ?_
                    refine o_aload_n (n := 137) rfl rfl rfl ?_
                    refine o_iload (n := 139) rfl rfl rfl ?_
                    refine o_invi (n := 142) rfl rfl rfl rfl rfl rfl rfl rfl rfl rfl (c8_isSign _ hs0 hs1) ?_
                    refine o_ifb_eq (n := 145) (t := 153) rfl rfl rfl (fun k142 => ?_) (fun k142 => ?_)
                    · refine o_iconst (n := 154) rfl rfl ?_
                      refine o_iadd (n := 155) rfl rfl (by omega) ?_
                      refine o_istore_2 (n := 156) rfl rfl rfl ?_
                      refine o_iinc_4 (n := 159) rfl rfl rfl (by omega) ?_
                      refine o_goto (t := 9) rfl rfl ?_
                      first
                        | (exfalso; omega; done)
                        | (have hz : ld = 0 ∧ (97 ≤ g 21 0 k ∧ g 21 0 k ≤ 96 + g 8 0 5) ∧ v1 < 6 := by omega
                           obtain ⟨hz, hl, h6⟩ := hz
                           subst hz
                           rw [cif_t rfl, fr_l ⟨hl, h6⟩]
                           have e := ih (k + 1) (v1 + 1) (v2 + 0) 0 (vI (g 21 0 k)) (vI 1) (by omega) (by omega) (by omega) (by omega) (by omega) (by omega) (by omega) (by omega)
                           rw [cif_t rfl] at e
                           exact e)
                        | (have hz : ld = 1 ∧ (97 ≤ g 21 0 k ∧ g 21 0 k ≤ 96 + g 8 0 5) ∧ v2 < 6 := by omega
                           obtain ⟨hz, hl, h6⟩ := hz
                           subst hz
                           rw [cif_f (by decide), fr_l ⟨hl, h6⟩]
                           have e := ih (k + 1) (v1 + 0) (v2 + 1) 1 (vI (g 21 0 k)) (vI 1) (by omega) (by omega) (by omega) (by omega) (by omega) (by omega) (by omega) (by omega)
                           rw [cif_f (by decide)] at e
                           exact e)
                        | (have hz : ld = 0 ∧ ¬ (97 ≤ g 21 0 k ∧ g 21 0 k ≤ 96 + g 8 0 5) ∧ (g 21 0 k = 62 ∨ g 21 0 k = 61) ∧ 0 < v1 ∧ v2 = 0 := by omega
                           obtain ⟨hz, hl, h6, h7, h8⟩ := hz
                           subst hz
                           subst h8
                           rw [cif_t rfl, fr_a (fun z => hl z.1) ⟨h6, rfl, h7⟩]
                           have e := ih (k + 1) (v1 + 0) (0 + 0) 1 (vI (g 21 0 k)) (vI 1) (by omega) (by omega) (by omega) (by omega) (by omega) (by omega) (by omega) (by omega)
                           rw [cif_f (by decide)] at e
                           exact e)
                    · refine o_iload_n (n := 146) rfl rfl rfl ?_
                      refine o_if_eq (n := 149) (t := 153) rfl rfl rfl (fun k146 => ?_) (fun k146 => ?_)
                      · refine o_iconst (n := 154) rfl rfl ?_
                        refine o_iadd (n := 155) rfl rfl (by omega) ?_
                        refine o_istore_2 (n := 156) rfl rfl rfl ?_
                        refine o_iinc_4 (n := 159) rfl rfl rfl (by omega) ?_
                        refine o_goto (t := 9) rfl rfl ?_
                        first
                          | (exfalso; omega; done)
                          | (have hz : ld = 0 ∧ (97 ≤ g 21 0 k ∧ g 21 0 k ≤ 96 + g 8 0 5) ∧ v1 < 6 := by omega
                             obtain ⟨hz, hl, h6⟩ := hz
                             subst hz
                             rw [cif_t rfl, fr_l ⟨hl, h6⟩]
                             have e := ih (k + 1) (v1 + 1) (v2 + 0) 0 (vI (g 21 0 k)) (vI 1) (by omega) (by omega) (by omega) (by omega) (by omega) (by omega) (by omega) (by omega)
                             rw [cif_t rfl] at e
                             exact e)
                          | (have hz : ld = 1 ∧ (97 ≤ g 21 0 k ∧ g 21 0 k ≤ 96 + g 8 0 5) ∧ v2 < 6 := by omega
                             obtain ⟨hz, hl, h6⟩ := hz
                             subst hz
                             rw [cif_f (by decide), fr_l ⟨hl, h6⟩]
                             have e := ih (k + 1) (v1 + 0) (v2 + 1) 1 (vI (g 21 0 k)) (vI 1) (by omega) (by omega) (by omega) (by omega) (by omega) (by omega) (by omega) (by omega)
                             rw [cif_f (by decide)] at e
                             exact e)
                          | (have hz : ld = 0 ∧ ¬ (97 ≤ g 21 0 k ∧ g 21 0 k ≤ 96 + g 8 0 5) ∧ (g 21 0 k = 62 ∨ g 21 0 k = 61) ∧ 0 < v1 ∧ v2 = 0 := by omega
                             obtain ⟨hz, hl, h6, h7, h8⟩ := hz
                             subst hz
                             subst h8
                             rw [cif_t rfl, fr_a (fun z => hl z.1) ⟨h6, rfl, h7⟩]
                             have e := ih (k + 1) (v1 + 0) (0 + 0) 1 (vI (g 21 0 k)) (vI 1) (by omega) (by omega) (by omega) (by omega) (by omega) (by omega) (by omega) (by omega)
                             rw [cif_f (by decide)] at e
                             exact e)
                      · refine o_iconst (n := 150) rfl rfl ?_
                        refine o_goto (t := 154) rfl rfl ?_
                        refine o_iadd (n := 155) rfl rfl (by omega) ?_
                        refine o_istore_2 (n := 156) rfl rfl rfl ?_
                        refine o_iinc_4 (n := 159) rfl rfl rfl (by omega) ?_
                        refine o_goto (t := 9) rfl rfl ?_
                        first
                          | (exfalso; omega; done)
                          | (have hz : ld = 0 ∧ (97 ≤ g 21 0 k ∧ g 21 0 k ≤ 96 + g 8 0 5) ∧ v1 < 6 := by omega
                             obtain ⟨hz, hl, h6⟩ := hz
                             subst hz
                             rw [cif_t rfl, fr_l ⟨hl, h6⟩]
                             have e := ih (k + 1) (v1 + 1) (v2 + 0) 0 (vI (g 21 0 k)) (vI 1) (by omega) (by omega) (by omega) (by omega) (by omega) (by omega) (by omega) (by omega)
                             rw [cif_t rfl] at e
                             exact e)
                          | (have hz : ld = 1 ∧ (97 ≤ g 21 0 k ∧ g 21 0 k ≤ 96 + g 8 0 5) ∧ v2 < 6 := by omega
                             obtain ⟨hz, hl, h6⟩ := hz
                             subst hz
                             rw [cif_f (by decide), fr_l ⟨hl, h6⟩]
                             have e := ih (k + 1) (v1 + 0) (v2 + 1) 1 (vI (g 21 0 k)) (vI 1) (by omega) (by omega) (by omega) (by omega) (by omega) (by omega) (by omega) (by omega)
                             rw [cif_f (by decide)] at e
                             exact e)
                          | (have hz : ld = 0 ∧ ¬ (97 ≤ g 21 0 k ∧ g 21 0 k ≤ 96 + g 8 0 5) ∧ (g 21 0 k = 62 ∨ g 21 0 k = 61) ∧ 0 < v1 ∧ v2 = 0 := by omega
                             obtain ⟨hz, hl, h6, h7, h8⟩ := hz
                             subst hz
                             subst h8
                             rw [cif_t rfl, fr_a (fun z => hl z.1) ⟨h6, rfl, h7⟩]
                             have e := ih (k + 1) (v1 + 0) (0 + 0) 1 (vI (g 21 0 k)) (vI 1) (by omega) (by omega) (by omega) (by omega) (by omega) (by omega) (by omega) (by omega)
                             rw [cif_f (by decide)] at e
                             exact e)
              · refine o_iconst (n := 109) rfl rfl ?_
                refine o_goto (t := 113) rfl rfl ?_
                refine o_istore_3 (n := 114) rfl rfl rfl ?_
                refine o_iload_n (n := 115) rfl rfl rfl ?_
                refine o_aload_n (n := 116) rfl rfl rfl ?_
                refine o_iload (n := 118) rfl rfl rfl ?_
                refine o_invi (n := 121) rfl rfl rfl rfl rfl rfl rfl rfl rfl rfl (c8_isSign _ hs0 hs1) ?_
                refine o_ifb_eq (n := 124) (t := 132) rfl rfl rfl (fun k121 => ?_) (fun k121 => ?_)
                · refine o_iconst (n := 133) rfl rfl ?_
                  refine o_iadd (n := 134) rfl rfl (by omega) ?_
                  refine o_istore_1 (n := 135) rfl rfl rfl ?_
                  refine o_iload_n (n := 136) rfl rfl rfl ?_
                  refine o_aload_n (n := 137) rfl rfl rfl ?_
                  refine o_iload (n := 139) rfl rfl rfl ?_
                  refine o_invi (n := 142) rfl rfl rfl rfl rfl rfl rfl rfl rfl rfl (c8_isSign _ hs0 hs1) ?_
                  refine o_ifb_eq (n := 145) (t := 153) rfl rfl rfl (fun k142 => ?_) (fun k142 => ?_)
                  · refine o_iconst (n := 154) rfl rfl ?_
                    refine o_iadd (n := 155) rfl rfl (by omega) ?_
                    refine o_istore_2 (n := 156) rfl rfl rfl ?_
                    refine o_iinc_4 (n := 159) rfl rfl rfl (by omega) ?_
                    refine o_goto (t := 9) rfl rfl ?_
                    first
                      | (exfalso; omega; done)
                      | (have hz : ld = 0 ∧ (97 ≤ g 21 0 k ∧ g 21 0 k ≤ 96 + g 8 0 5) ∧ v1 < 6 := by omega
                         obtain ⟨hz, hl, h6⟩ := hz
                         subst hz
                         rw [cif_t rfl, fr_l ⟨hl, h6⟩]
                         have e := ih (k + 1) (v1 + 1) (v2 + 0) 0 (vI (g 21 0 k)) (vI 1) (by omega) (by omega) (by omega) (by omega) (by omega) (by omega) (by omega) (by omega)
                         rw [cif_t rfl] at e
                         exact e)
                      | (have hz : ld = 1 ∧ (97 ≤ g 21 0 k ∧ g 21 0 k ≤ 96 + g 8 0 5) ∧ v2 < 6 := by omega
                         obtain ⟨hz, hl, h6⟩ := hz
                         subst hz
                         rw [cif_f (by decide), fr_l ⟨hl, h6⟩]
                         have e := ih (k + 1) (v1 + 0) (v2 + 1) 1 (vI (g 21 0 k)) (vI 1) (by omega) (by omega) (by omega) (by omega) (by omega) (by omega) (by omega) (by omega)
                         rw [cif_f (by decide)] at e
                         exact e)
                      | (have hz : ld = 0 ∧ ¬ (97 ≤ g 21 0 k ∧ g 21 0 k ≤ 96 + g 8 0 5) ∧ (g 21 0 k = 62 ∨ g 21 0 k = 61) ∧ 0 < v1 ∧ v2 = 0 := by omega
                         obtain ⟨hz, hl, h6, h7, h8⟩ := hz
                         subst hz
                         subst h8
                         rw [cif_t rfl, fr_a (fun z => hl z.1) ⟨h6, rfl, h7⟩]
                         have e := ih (k + 1) (v1 + 0) (0 + 0) 1 (vI (g 21 0 k)) (vI 1) (by omega) (by omega) (by omega) (by omega) (by omega) (by omega) (by omega) (by omega)
                         rw [cif_f (by decide)] at e
                         exact e)
                  · refine o_iload_n (n := 146) rfl rfl rfl ?_
                    refine o_if_eq (n := 149) (t := 153) rfl rfl rfl (fun k146 => ?_) (fun k146 => ?_)
                    · refine o_iconst (n := 154) rfl rfl ?_
                      refine o_iadd (n := 155) rfl rfl (by omega) ?_
                      refine o_istore_2 (n := 156) rfl rfl rfl ?_
                      refine o_iinc_4 (n := 159) rfl rfl rfl (by omega) ?_
                      refine o_goto (t := 9) rfl rfl ?_
                      first
                        | (exfalso; omega; done)
                        | (have hz : ld = 0 ∧ (97 ≤ g 21 0 k ∧ g 21 0 k ≤ 96 + g 8 0 5) ∧ v1 < 6 := by omega
                           obtain ⟨hz, hl, h6⟩ := hz
                           subst hz
                           rw [cif_t rfl, fr_l ⟨hl, h6⟩]
                           have e := ih (k + 1) (v1 + 1) (v2 + 0) 0 (vI (g 21 0 k)) (vI 1) (by omega) (by omega) (by omega) (by omega) (by omega) (by omega) (by omega) (by omega)
                           rw [cif_t rfl] at e
                           exact e)
                        | (have hz : ld = 1 ∧ (97 ≤ g 21 0 k ∧ g 21 0 k ≤ 96 + g 8 0 5) ∧ v2 < 6 := by omega
                           obtain ⟨hz, hl, h6⟩ := hz
                           subst hz
                           rw [cif_f (by decide), fr_l ⟨hl, h6⟩]
                           have e := ih (k + 1) (v1 + 0) (v2 + 1) 1 (vI (g 21 0 k)) (vI 1) (by omega) (by omega) (by omega) (by omega) (by omega) (by omega) (by omega) (by omega)
                           rw [cif_f (by decide)] at e
                           exact e)
                        | (have hz : ld = 0 ∧ ¬ (97 ≤ g 21 0 k ∧ g 21 0 k ≤ 96 + g 8 0 5) ∧ (g 21 0 k = 62 ∨ g 21 0 k = 61) ∧ 0 < v1 ∧ v2 = 0 := by omega
                           obtain ⟨hz, hl, h6, h7, h8⟩ := hz
                           subst hz
                           subst h8
                           rw [cif_t rfl, fr_a (fun z => hl z.1) ⟨h6, rfl, h7⟩]
                           have e := ih (k + 1) (v1 + 0) (0 + 0) 1 (vI (g 21 0 k)) (vI 1) (by omega) (by omega) (by omega) (by omega) (by omega) (by omega) (by omega) (by omega)
                           rw [cif_f (by decide)] at e
                           exact e)
                    · refine o_iconst (n := 150) rfl rfl ?_
                      refine o_goto (t := 154) rfl rfl ?_
                      refine o_iadd (n := 155) rfl rfl (by omega) ?_
                      refine o_istore_2 (n := 156) rfl rfl rfl ?_
                      refine o_iinc_4 (n := 159) rfl rfl rfl (by omega) ?_
                      refine o_goto (t := 9) rfl rfl ?_
                      first
                        | (exfalso; omega; done)
                        | (have hz : ld = 0 ∧ (97 ≤ g 21 0 k ∧ g 21 0 k ≤ 96 + g 8 0 5) ∧ v1 < 6 := by omega
                           obtain ⟨hz, hl, h6⟩ := hz
                           subst hz
                           rw [cif_t rfl, fr_l ⟨hl, h6⟩]
                           have e := ih (k + 1) (v1 + 1) (v2 + 0) 0 (vI (g 21 0 k)) (vI 1) (by omega) (by omega) (by omega) (by omega) (by omega) (by omega) (by omega) (by omega)
                           rw [cif_t rfl] at e
                           exact e)
                        | (have hz : ld = 1 ∧ (97 ≤ g 21 0 k ∧ g 21 0 k ≤ 96 + g 8 0 5) ∧ v2 < 6 := by omega
                           obtain ⟨hz, hl, h6⟩ := hz
                           subst hz
                           rw [cif_f (by decide), fr_l ⟨hl, h6⟩]
                           have e := ih (k + 1) (v1 + 0) (v2 + 1) 1 (vI (g 21 0 k)) (vI 1) (by omega) (by omega) (by omega) (by omega) (by omega) (by omega) (by omega) (by omega)
                           rw [cif_f (by decide)] at e
                           exact e)
                        | (have hz : ld = 0 ∧ ¬ (97 ≤ g 21 0 k ∧ g 21 0 k ≤ 96 + g 8 0 5) ∧ (g 21 0 k = 62 ∨ g 21 0 k = 61) ∧ 0 < v1 ∧ v2 = 0 := by omega
                           obtain ⟨hz, hl, h6, h7, h8⟩ := hz
                           subst hz
                           subst h8
                           rw [cif_t rfl, fr_a (fun z => hl z.1) ⟨h6, rfl, h7⟩]
                           have e := ih (k + 1) (v1 + 0) (0 + 0) 1 (vI (g 21 0 k)) (vI 1) (by omega) (by omega) (by omega) (by omega) (by omega) (by omega) (by omega) (by omega)
                           rw [cif_f (by decide)] at e
                           exact e)
                · refine o_iload_n (n := 125) rfl rfl rfl ?_
                  refine o_if_ne (n := 128) (t := 132) rfl rfl rfl (fun k125 => ?_) (fun k125 => ?_)
                  · refine o_iconst (n := 133) rfl rfl ?_
                    refine o_iadd (n := 134) rfl rfl (by omega) ?_
                    refine o_istore_1 (n := 135) rfl rfl rfl ?_
                    refine o_iload_n (n := 136) rfl rfl rfl ?_
                    refine o_aload_n (n := 137) rfl rfl rfl ?_
                    refine o_iload (n := 139) rfl rfl rfl ?_
                    refine o_invi (n := 142) rfl rfl rfl rfl rfl rfl rfl rfl rfl rfl (c8_isSign _ hs0 hs1) ?_
                    refine o_ifb_eq (n := 145) (t := 153) rfl rfl rfl (fun k142 => ?_) (fun k142 => ?_)
                    · refine o_iconst (n := 154) rfl rfl ?_
                      refine o_iadd (n := 155) rfl rfl (by omega) ?_
                      refine o_istore_2 (n := 156) rfl rfl rfl ?_
                      refine o_iinc_4 (n := 159) rfl rfl rfl (by omega) ?_
                      refine o_goto (t := 9) rfl rfl ?_
                      first
                        | (exfalso; omega; done)
                        | (have hz : ld = 0 ∧ (97 ≤ g 21 0 k ∧ g 21 0 k ≤ 96 + g 8 0 5) ∧ v1 < 6 := by omega
                           obtain ⟨hz, hl, h6⟩ := hz
                           subst hz
                           rw [cif_t rfl, fr_l ⟨hl, h6⟩]
                           have e := ih (k + 1) (v1 + 1) (v2 + 0) 0 (vI (g 21 0 k)) (vI 1) (by omega) (by omega) (by omega) (by omega) (by omega) (by omega) (by omega) (by omega)
                           rw [cif_t rfl] at e
                           exact e)
                        | (have hz : ld = 1 ∧ (97 ≤ g 21 0 k ∧ g 21 0 k ≤ 96 + g 8 0 5) ∧ v2 < 6 := by omega
                           obtain ⟨hz, hl, h6⟩ := hz
                           subst hz
                           rw [cif_f (by decide), fr_l ⟨hl, h6⟩]
                           have e := ih (k + 1) (v1 + 0) (v2 + 1) 1 (vI (g 21 0 k)) (vI 1) (by omega) (by omega) (by omega) (by omega) (by omega) (by omega) (by omega) (by omega)
                           rw [cif_f (by decide)] at e
                           exact e)
                        | (have hz : ld = 0 ∧ ¬ (97 ≤ g 21 0 k ∧ g 21 0 k ≤ 96 + g 8 0 5) ∧ (g 21 0 k = 62 ∨ g 21 0 k = 61) ∧ 0 < v1 ∧ v2 = 0 := by omega
                           obtain ⟨hz, hl, h6, h7, h8⟩ := hz
                           subst hz
                           subst h8
                           rw [cif_t rfl, fr_a (fun z => hl z.1) ⟨h6, rfl, h7⟩]
                           have e := ih (k + 1) (v1 + 0) (0 + 0) 1 (vI (g 21 0 k)) (vI 1) (by omega) (by omega) (by omega) (by omega) (by omega) (by omega) (by omega) (by omega)
                           rw [cif_f (by decide)] at e
                           exact e)
                    · refine o_iload_n (n := 146) rfl rfl rfl ?_
                      refine o_if_eq (n := 149) (t := 153) rfl rfl rfl (fun k146 => ?_) (fun k146 => ?_)
                      · refine o_iconst (n := 154) rfl rfl ?_
                        refine o_iadd (n := 155) rfl rfl (by omega) ?_
                        refine o_istore_2 (n := 156) rfl rfl rfl ?_
                        refine o_iinc_4 (n := 159) rfl rfl rfl (by omega) ?_
                        refine o_goto (t := 9) rfl rfl ?_
                        first
                          | (exfalso; omega; done)
                          | (have hz : ld = 0 ∧ (97 ≤ g 21 0 k ∧ g 21 0 k ≤ 96 + g 8 0 5) ∧ v1 < 6 := by omega
                             obtain ⟨hz, hl, h6⟩ := hz
                             subst hz
                             rw [cif_t rfl, fr_l ⟨hl, h6⟩]
                             have e := ih (k + 1) (v1 + 1) (v2 + 0) 0 (vI (g 21 0 k)) (vI 1) (by omega) (by omega) (by omega) (by omega) (by omega) (by omega) (by omega) (by omega)
                             rw [cif_t rfl] at e
                             exact e)
                          | (have hz : ld = 1 ∧ (97 ≤ g 21 0 k ∧ g 21 0 k ≤ 96 + g 8 0 5) ∧ v2 < 6 := by omega
                             obtain ⟨hz, hl, h6⟩ := hz
                             subst hz
                             rw [cif_f (by decide), fr_l ⟨hl, h6⟩]
                             have e := ih (k + 1) (v1 + 0) (v2 + 1) 1 (vI (g 21 0 k)) (vI 1) (by omega) (by omega) (by omega) (by omega) (by omega) (by omega) (by omega) (by omega)
                             rw [cif_f (by decide)] at e
                             exact e)
                          | (have hz : ld = 0 ∧ ¬ (97 ≤ g 21 0 k ∧ g 21 0 k ≤ 96 + g 8 0 5) ∧ (g 21 0 k = 62 ∨ g 21 0 k = 61) ∧ 0 < v1 ∧ v2 = 0 := by omega
                             obtain ⟨hz, hl, h6, h7, h8⟩ := hz
                             subst hz
                             subst h8
                             rw [cif_t rfl, fr_a (fun z => hl z.1) ⟨h6, rfl, h7⟩]
                             have e := ih (k + 1) (v1 + 0) (0 + 0) 1 (vI (g 21 0 k)) (vI 1) (by omega) (by omega) (by omega) (by omega) (by omega) (by omega) (by omega) (by omega)
                             rw [cif_f (by decide)] at e
                             exact e)
                      · refine o_iconst (n := 150) rfl rfl ?_
                        refine o_goto (t := 154) rfl rfl ?_
                        refine o_iadd (n := 155) rfl rfl (by omega) ?_
                        refine o_istore_2 (n := 156) rfl rfl rfl ?_
                        refine o_iinc_4 (n := 159) rfl rfl rfl (by omega) ?_
                        refine o_goto (t := 9) rfl rfl ?_
                        first
                          | (exfalso; omega; done)
                          | (have hz : ld = 0 ∧ (97 ≤ g 21 0 k ∧ g 21 0 k ≤ 96 + g 8 0 5) ∧ v1 < 6 := by omega
                             obtain ⟨hz, hl, h6⟩ := hz
                             subst hz
                             rw [cif_t rfl, fr_l ⟨hl, h6⟩]
                             have e := ih (k + 1) (v1 + 1) (v2 + 0) 0 (vI (g 21 0 k)) (vI 1) (by omega) (by omega) (by omega) (by omega) (by omega) (by omega) (by omega) (by omega)
                             rw [cif_t rfl] at e
                             exact e)
                          | (have hz : ld = 1 ∧ (97 ≤ g 21 0 k ∧ g 21 0 k ≤ 96 + g 8 0 5) ∧ v2 < 6 := by omega
                             obtain ⟨hz, hl, h6⟩ := hz
                             subst hz
                             rw [cif_f (by decide), fr_l ⟨hl, h6⟩]
                             have e := ih (k + 1) (v1 + 0) (v2 + 1) 1 (vI (g 21 0 k)) (vI 1) (by omega) (by omega) (by omega) (by omega) (by omega) (by omega) (by omega) (by omega)
                             rw [cif_f (by decide)] at e
                             exact e)
                          | (have hz : ld = 0 ∧ ¬ (97 ≤ g 21 0 k ∧ g 21 0 k ≤ 96 + g 8 0 5) ∧ (g 21 0 k = 62 ∨ g 21 0 k = 61) ∧ 0 < v1 ∧ v2 = 0 := by omega
                             obtain ⟨hz, hl, h6, h7, h8⟩ := hz
                             subst hz
                             subst h8
                             rw [cif_t rfl, fr_a (fun z => hl z.1) ⟨h6, rfl, h7⟩]
                             have e := ih (k + 1) (v1 + 0) (0 + 0) 1 (vI (g 21 0 k)) (vI 1) (by omega) (by omega) (by omega) (by omega) (by omega) (by omega) (by omega) (by omega)
                             rw [cif_f (by decide)] at e
                             exact e)
                  · refine o_iconst (n := 129) rfl rfl ?_
                    refine o_goto (t := 133) rfl rfl ?_
                    refine o_iadd (n := 134) rfl rfl (by omega) ?_
                    refine o_istore_1 (n := 135) rfl rfl rfl ?_
                    refine o_iload_n (n := 136) rfl rfl rfl ?_
                    refine o_aload_n (n := 137) rfl rfl rfl ?_
                    refine o_iload (n := 139) rfl rfl rfl ?_
                    refine o_invi (n := 142) rfl rfl rfl rfl rfl rfl rfl rfl rfl rfl (c8_isSign _ hs0 hs1) ?_
                    refine o_ifb_eq (n := 145) (t := 153) rfl rfl rfl (fun k142 => ?_) (fun k142 => ?_)
                    · refine o_iconst (n := 154) rfl rfl ?_
                      refine o_iadd (n := 155) rfl rfl (by omega) ?_
                      refine o_istore_2 (n := 156) rfl rfl rfl ?_
                      refine o_iinc_4 (n := 159) rfl rfl rfl (by omega) ?_
                      refine o_goto (t := 9) rfl rfl ?_
                      first
                        | (exfalso; omega; done)
                        | (have hz : ld = 0 ∧ (97 ≤ g 21 0 k ∧ g 21 0 k ≤ 96 + g 8 0 5) ∧ v1 < 6 := by omega
                           obtain ⟨hz, hl, h6⟩ := hz
                           subst hz
                           rw [cif_t rfl, fr_l ⟨hl, h6⟩]
                           have e := ih (k + 1) (v1 + 1) (v2 + 0) 0 (vI (g 21 0 k)) (vI 1) (by omega) (by omega) (by omega) (by omega) (by omega) (by omega) (by omega) (by omega)
                           rw [cif_t rfl] at e
                           exact e)
                        | (have hz : ld = 1 ∧ (97 ≤ g 21 0 k ∧ g 21 0 k ≤ 96 + g 8 0 5) ∧ v2 < 6 := by omega
                           obtain ⟨hz, hl, h6⟩ := hz
                           subst hz
                           rw [cif_f (by decide), fr_l ⟨hl, h6⟩]
                           have e := ih (k + 1) (v1 + 0) (v2 + 1) 1 (vI (g 21 0 k)) (vI 1) (by omega) (by omega) (by omega) (by omega) (by omega) (by omega) (by omega) (by omega)
                           rw [cif_f (by decide)] at e
                           exact e)
                        | (have hz : ld = 0 ∧ ¬ (97 ≤ g 21 0 k ∧ g 21 0 k ≤ 96 + g 8 0 5) ∧ (g 21 0 k = 62 ∨ g 21 0 k = 61) ∧ 0 < v1 ∧ v2 = 0 := by omega
                           obtain ⟨hz, hl, h6, h7, h8⟩ := hz
                           subst hz
                           subst h8
                           rw [cif_t rfl, fr_a (fun z => hl z.1) ⟨h6, rfl, h7⟩]
                           have e := ih (k + 1) (v1 + 0) (0 + 0) 1 (vI (g 21 0 k)) (vI 1) (by omega) (by omega) (by omega) (by omega) (by omega) (by omega) (by omega) (by omega)
                           rw [cif_f (by decide)] at e
                           exact e)
                    · refine o_iload_n (n := 146) rfl rfl rfl ?_
                      refine o_if_eq (n := 149) (t := 153) rfl rfl rfl (fun k146 => ?_) (fun k146 => ?_)
                      · refine o_iconst (n := 154) rfl rfl ?_
                        refine o_iadd (n := 155) rfl rfl (by omega) ?_
                        refine o_istore_2 (n := 156) rfl rfl rfl ?_
                        refine o_iinc_4 (n := 159) rfl rfl rfl (by omega) ?_
                        refine o_goto (t := 9) rfl rfl ?_
                        first
                          | (exfalso; omega; done)
                          | (have hz : ld = 0 ∧ (97 ≤ g 21 0 k ∧ g 21 0 k ≤ 96 + g 8 0 5) ∧ v1 < 6 := by omega
                             obtain ⟨hz, hl, h6⟩ := hz
                             subst hz
                             rw [cif_t rfl, fr_l ⟨hl, h6⟩]
                             have e := ih (k + 1) (v1 + 1) (v2 + 0) 0 (vI (g 21 0 k)) (vI 1) (by omega) (by omega) (by omega) (by omega) (by omega) (by omega) (by omega) (by omega)
                             rw [cif_t rfl] at e
                             exact e)
                          | (have hz : ld = 1 ∧ (97 ≤ g 21 0 k ∧ g 21 0 k ≤ 96 + g 8 0 5) ∧ v2 < 6 := by omega
                             obtain ⟨hz, hl, h6⟩ := hz
                             subst hz
                             rw [cif_f (by decide), fr_l ⟨hl, h6⟩]
                             have e := ih (k + 1) (v1 + 0) (v2 + 1) 1 (vI (g 21 0 k)) (vI 1) (by omega) (by omega) (by omega) (by omega) (by omega) (by omega) (by omega) (by omega)
                             rw [cif_f (by decide)] at e
                             exact e)
                          | (have hz : ld = 0 ∧ ¬ (97 ≤ g 21 0 k ∧ g 21 0 k ≤ 96 + g 8 0 5) ∧ (g 21 0 k = 62 ∨ g 21 0 k = 61) ∧ 0 < v1 ∧ v2 = 0 := by omega
                             obtain ⟨hz, hl, h6, h7, h8⟩ := hz
                             subst hz
                             subst h8
                             rw [cif_t rfl, fr_a (fun z => hl z.1) ⟨h6, rfl, h7⟩]
                             have e := ih (k + 1) (v1 + 0) (0 + 0) 1 (vI (g 21 0 k)) (vI 1) (by omega) (by omega) (by omega) (by omega) (by omega) (by omega) (by omega) (by omega)
                             rw [cif_f (by decide)] at e
                             exact e)
                      · refine o_iconst (n := 150) rfl rfl ?_
                        refine o_goto (t := 154) rfl rfl ?_
                        refine o_iadd (n := 155) rfl rfl (by omega) ?_
                        refine o_istore_2 (n := 156) rfl rfl rfl ?_
                        refine o_iinc_4 (n := 159) rfl rfl rfl (by omega) ?_
                        refine o_goto (t := 9) rfl rfl ?_
                        first
                          | (exfalso; omega; done)
                          | (have hz : ld = 0 ∧ (97 ≤ g 21 0 k ∧ g 21 0 k ≤ 96 + g 8 0 5) ∧ v1 < 6 := by omega
                             obtain ⟨hz, hl, h6⟩ := hz
                             subst hz
                             rw [cif_t rfl, fr_l ⟨hl, h6⟩]
                             have e := ih (k + 1) (v1 + 1) (v2 + 0) 0 (vI (g 21 0 k)) (vI 1) (by omega) (by omega) (by omega) (by omega) (by omega) (by omega) (by omega) (by omega)
                             rw [cif_t rfl] at e
                             exact e)
                          | (have hz : ld = 1 ∧ (97 ≤ g 21 0 k ∧ g 21 0 k ≤ 96 + g 8 0 5) ∧ v2 < 6 := by omega
                             obtain ⟨hz, hl, h6⟩ := hz
                             subst hz
                             rw [cif_f (by decide), fr_l ⟨hl, h6⟩]
                             have e := ih (k + 1) (v1 + 0) (v2 + 1) 1 (vI (g 21 0 k)) (vI 1) (by omega) (by omega) (by omega) (by omega) (by omega) (by omega) (by omega) (by omega)
                             rw [cif_f (by decide)] at e
                             exact e)
                          | (have hz : ld = 0 ∧ ¬ (97 ≤ g 21 0 k ∧ g 21 0 k ≤ 96 + g 8 0 5) ∧ (g 21 0 k = 62 ∨ g 21 0 k = 61) ∧ 0 < v1 ∧ v2 = 0 := by omega
                             obtain ⟨hz, hl, h6, h7, h8⟩ := hz
                             subst hz
                             subst h8
                             rw [cif_t rfl, fr_a (fun z => hl z.1) ⟨h6, rfl, h7⟩]
                             have e := ih (k + 1) (v1 + 0) (0 + 0) 1 (vI (g 21 0 k)) (vI 1) (by omega) (by omega) (by omega) (by omega) (by omega) (by omega) (by omega) (by omega)
                             rw [cif_f (by decide)] at e
                             exact e)
          · refine o_iload (n := 94) rfl rfl rfl ?_
            refine o_iret rfl rfl ?_
            first
              | (exfalso; omega; done)
              | (refine ⟨congrArg (fun z => some (vI z)) ?_, rfl, rfl⟩
                 by_cases hz : ld = 0
                 · rw [cif_t hz, fr_x (by omega) (by omega)]
                 · rw [cif_f hz, fr_x (by omega) (by omega)])
      · refine o_iload_n (n := 41) rfl rfl rfl ?_
        refine o_goto (t := 45) rfl rfl ?_
        refine o_bipush (n := 47) rfl rfl ?_
        refine o_icmp_ge (n := 50) (t := 54) rfl rfl rfl (fun k47 => ?_) (fun k47 => ?_)
        · refine o_iconst (n := 55) rfl rfl ?_
          refine o_goto (t := 85) rfl rfl ?_
          refine o_istore_6 (n := 87) rfl rfl rfl ?_
          refine o_iload (n := 89) rfl rfl rfl ?_
          refine o_if_ne (n := 92) (t := 95) rfl rfl rfl (fun k89 => ?_) (fun k89 => ?_)
          · refine o_iload_n (n := 96) rfl rfl rfl ?_
            refine o_if_ne (n := 99) (t := 108) rfl rfl rfl (fun k96 => ?_) (fun k96 => ?_)
            · refine o_iconst (n := 109) rfl rfl ?_
              refine o_goto (t := 113) rfl rfl ?_
              refine o_istore_3 (n := 114) rfl rfl rfl ?_
              refine o_iload_n (n := 115) rfl rfl rfl ?_
              refine o_aload_n (n := 116) rfl rfl rfl ?_
              refine o_iload (n := 118) rfl rfl rfl ?_
              refine o_invi (n := 121) rfl rfl rfl rfl rfl rfl rfl rfl rfl rfl (c8_isSign _ hs0 hs1) ?_
              refine o_ifb_eq (n := 124) (t := 132) rfl rfl rfl (fun k121 => ?_) (fun k121 => ?_)
              · refine o_iconst (n := 133) rfl rfl ?_
                refine o_iadd (n := 134) rfl rfl (by omega) ?_
                refine o_istore_1 (n := 135) rfl rfl rfl ?_
                refine o_iload_n (n := 136) rfl rfl rfl ?_
                refine o_aload_n (n := 137) rfl rfl rfl ?_
                refine o_iload (n := 139) rfl rfl rfl ?_
                refine o_invi (n := 142) rfl rfl rfl rfl rfl rfl rfl rfl rfl rfl (c8_isSign _ hs0 hs1) ?_
                refine o_ifb_eq (n := 145) (t := 153) rfl rfl rfl (fun k142 => ?_) (fun k142 => ?_)
                · refine o_iconst (n := 154) rfl rfl ?_
                  refine o_iadd (n := 155) rfl rfl (by omega) ?_
                  refine o_istore_2 (n := 156) rfl rfl rfl ?_
                  refine o_iinc_4 (n := 159) rfl rfl rfl (by omega) ?_
                  refine o_goto (t := 9) rfl rfl ?_
                  first
                    | (exfalso; omega; done)
                    | (have hz : ld = 0 ∧ (97 ≤ g 21 0 k ∧ g 21 0 k ≤ 96 + g 8 0 5) ∧ v1 < 6 := by omega
                       obtain ⟨hz, hl, h6⟩ := hz
                       subst hz
                       rw [cif_t rfl, fr_l ⟨hl, h6⟩]
                       have e := ih (k + 1) (v1 + 1) (v2 + 0) 0 (vI (g 21 0 k)) (vI 1) (by omega) (by omega) (by omega) (by omega) (by omega) (by omega) (by omega) (by omega)
                       rw [cif_t rfl] at e
                       exact e)
                    | (have hz : ld = 1 ∧ (97 ≤ g 21 0 k ∧ g 21 0 k ≤ 96 + g 8 0 5) ∧ v2 < 6 := by omega
                       obtain ⟨hz, hl, h6⟩ := hz
                       subst hz
                       rw [cif_f (by decide), fr_l ⟨hl, h6⟩]
                       have e := ih (k + 1) (v1 + 0) (v2 + 1) 1 (vI (g 21 0 k)) (vI 1) (by omega) (by omega) (by omega) (by omega) (by omega) (by omega) (by omega) (by omega)
                       rw [cif_f (by decide)] at e
                       exact e)
                    | (have hz : ld = 0 ∧ ¬ (97 ≤ g 21 0 k ∧ g 21 0 k ≤ 96 + g 8 0 5) ∧ (g 21 0 k = 62 ∨ g 21 0 k = 61) ∧ 0 < v1 ∧ v2 = 0 := by omega
                       obtain ⟨hz, hl, h6, h7, h8⟩ := hz
                       subst hz
                       subst h8
                       rw [cif_t rfl, fr_a (fun z => hl z.1) ⟨h6, rfl, h7⟩]
                       have e := ih (k + 1) (v1 + 0) (0 + 0) 1 (vI (g 21 0 k)) (vI 1) (by omega) (by omega) (by omega) (by omega) (by omega) (by omega) (by omega) (by omega)
                       rw [cif_f (by decide)] at e
                       exact e)
                · refine o_iload_n (n := 146) rfl rfl rfl ?_
                  refine o_if_eq (n := 149) (t := 153) rfl rfl rfl (fun k146 => ?_) (fun k146 => ?_)
                  · refine o_iconst (n := 154) rfl rfl ?_
                    refine o_iadd (n := 155) rfl rfl (by omega) ?_
                    refine o_istore_2 (n := 156) rfl rfl rfl ?_
                    refine o_iinc_4 (n := 159) rfl rfl rfl (by omega) ?_
                    refine o_goto (t := 9) rfl rfl ?_
                    first
                      | (exfalso; omega; done)
                      | (have hz : ld = 0 ∧ (97 ≤ g 21 0 k ∧ g 21 0 k ≤ 96 + g 8 0 5) ∧ v1 < 6 := by omega
                         obtain ⟨hz, hl, h6⟩ := hz
                         subst hz
                         rw [cif_t rfl, fr_l ⟨hl, h6⟩]
                         have e := ih (k + 1) (v1 + 1) (v2 + 0) 0 (vI (g 21 0 k)) (vI 1) (by omega) (by omega) (by omega) (by omega) (by omega) (by omega) (by omega) (by omega)
                         rw [cif_t rfl] at e
                         exact e)
                      | (have hz : ld = 1 ∧ (97 ≤ g 21 0 k ∧ g 21 0 k ≤ 96 + g 8 0 5) ∧ v2 < 6 := by omega
                         obtain ⟨hz, hl, h6⟩ := hz
                         subst hz
                         rw [cif_f (by decide), fr_l ⟨hl, h6⟩]
                         have e := ih (k + 1) (v1 + 0) (v2 + 1) 1 (vI (g 21 0 k)) (vI 1) (by omega) (by omega) (by omega) (by omega) (by omega) (by omega) (by omega) (by omega)
                         rw [cif_f (by decide)] at e
                         exact e)
                      | (have hz : ld = 0 ∧ ¬ (97 ≤ g 21 0 k ∧ g 21 0 k ≤ 96 + g 8 0 5) ∧ (g 21 0 k = 62 ∨ g 21 0 k = 61) ∧ 0 < v1 ∧ v2 = 0 := by omega
                         obtain ⟨hz, hl, h6, h7, h8⟩ := hz
                         subst hz
                         subst h8
                         rw [cif_t rfl, fr_a (fun z => hl z.1) ⟨h6, rfl, h7⟩]
                         have e := ih (k + 1) (v1 + 0) (0 + 0) 1 (vI (g 21 0 k)) (vI 1) (by omega) (by omega) (by omega) (by omega) (by omega) (by omega) (by omega) (by omega)
                         rw [cif_f (by decide)] at e
                         exact e)
                  · refine o_iconst (n := 150) rfl rfl ?_
                    refine o_goto (t := 154) rfl rfl ?_
                    refine o_iadd (n := 155) rfl rfl (by omega) ?_
                    refine o_istore_2 (n := 156) rfl rfl rfl ?_
                    refine o_iinc_4 (n := 159) rfl rfl rfl (by omega) ?_
                    refine o_goto (t := 9) rfl rfl ?_
                    first
                      | (exfalso; omega; done)
                      | (have hz : ld = 0 ∧ (97 ≤ g 21 0 k ∧ g 21 0 k ≤ 96 + g 8 0 5) ∧ v1 < 6 := by omega
                         obtain ⟨hz, hl, h6⟩ := hz
                         subst hz
                         rw [cif_t rfl, fr_l ⟨hl, h6⟩]
                         have e := ih (k + 1) (v1 + 1) (v2 + 0) 0 (vI (g 21 0 k)) (vI 1) (by omega) (by omega) (by omega) (by omega) (by omega) (by omega) (by omega) (by omega)
                         rw [cif_t rfl] at e
                         exact e)
                      | (have hz : ld = 1 ∧ (97 ≤ g 21 0 k ∧ g 21 0 k ≤ 96 + g 8 0 5) ∧ v2 < 6 := by omega
                         obtain ⟨hz, hl, h6⟩ := hz
                         subst hz
                         rw [cif_f (by decide), fr_l ⟨hl, h6⟩]
                         have e := ih (k + 1) (v1 + 0) (v2 + 1) 1 (vI (g 21 0 k)) (vI 1) (by omega) (by omega) (by omega) (by omega) (by omega) (by omega) (by omega) (by omega)
                         rw [cif_f (by decide)] at e
                         exact e)
                      | (have hz : ld = 0 ∧ ¬ (97 ≤ g 21 0 k ∧ g 21 0 k ≤ 96 + g 8 0 5) ∧ (g 21 0 k = 62 ∨ g 21 0 k = 61) ∧ 0 < v1 ∧ v2 = 0 := by omega
                         obtain ⟨hz, hl, h6, h7, h8⟩ := hz
                         subst hz
                         subst h8
                         rw [cif_t rfl, fr_a (fun z => hl z.1) ⟨h6, rfl, h7⟩]
                         have e := ih (k + 1) (v1 + 0) (0 + 0) 1 (vI (g 21 0 k)) (vI 1) (by omega) (by omega) (by omega) (by omega) (by omega) (by omega) (by omega) (by omega)
                         rw [cif_f (by decide)] at e
                         exact e)
              · refine o_iload_n (n := 125) rfl rfl rfl ?_
                refine o_if_ne (n := 128) (t := 132) rfl rfl rfl (fun k125 => ?_) (fun k125 => ?_)
                · refine o_iconst (n := 133) rfl rfl ?_
                  refine o_iadd (n := 134) rfl rfl (by omega) ?_
                  refine o_istore_1 (n := 135) rfl rfl rfl ?_
                  refine o_iload_n (n := 136) rfl rfl rfl ?_
                  refine o_aload_n (n := 137) rfl rfl rfl ?_
                  refine o_iload (n := 139) rfl rfl rfl ?_
                  refine o_invi (n := 142) rfl rfl rfl rfl rfl rfl rfl rfl rfl rfl (c8_isSign _ hs0 hs1) ?_
                  refine o_ifb_eq (n := 145) (t := 153) rfl rfl rfl (fun k142 => ?_) (fun k142 => ?_)
                  · refine o_iconst (n := 154) rfl rfl ?_
                    refine o_iadd (n := 155) rfl rfl (by omega) ?_
                    refine o_istore_2 (n := 156) rfl rfl rfl ?_
                    refine o_iinc_4 (n := 159) rfl rfl rfl (by omega) ?_
                    refine o_goto (t := 9) rfl rfl ?_
                    first
                      | (exfalso; omega; done)
                      | (have hz : ld = 0 ∧ (97 ≤ g 21 0 k ∧ g 21 0 k ≤ 96 + g 8 0 5) ∧ v1 < 6 := by omega
                         obtain ⟨hz, hl, h6⟩ := hz
                         subst hz
                         rw [cif_t rfl, fr_l ⟨hl, h6⟩]
                         have e := ih (k + 1) (v1 + 1) (v2 + 0) 0 (vI (g 21 0 k)) (vI 1) (by omega) (by omega) (by omega) (by omega) (by omega) (by omega) (by omega) (by omega)
                         rw [cif_t rfl] at e
                         exact e)
                      | (have hz : ld = 1 ∧ (97 ≤ g 21 0 k ∧ g 21 0 k ≤ 96 + g 8 0 5) ∧ v2 < 6 := by omega
                         obtain ⟨hz, hl, h6⟩ := hz
                         subst hz
                         rw [cif_f (by decide), fr_l ⟨hl, h6⟩]
                         have e := ih (k + 1) (v1 + 0) (v2 + 1) 1 (vI (g 21 0 k)) (vI 1) (by omega) (by omega) (by omega) (by omega) (by omega) (by omega) (by omega) (by omega)
                         rw [cif_f (by decide)] at e
                         exact e)
                      | (have hz : ld = 0 ∧ ¬ (97 ≤ g 21 0 k ∧ g 21 0 k ≤ 96 + g 8 0 5) ∧ (g 21 0 k = 62 ∨ g 21 0 k = 61) ∧ 0 < v1 ∧ v2 = 0 := by omega
                         obtain ⟨hz, hl, h6, h7, h8⟩ := hz
                         subst hz
                         subst h8
                         rw [cif_t rfl, fr_a (fun z => hl z.1) ⟨h6, rfl, h7⟩]
                         have e := ih (k + 1) (v1 + 0) (0 + 0) 1 (vI (g 21 0 k)) (vI 1) (by omega) (by omega) (by omega) (by omega) (by omega) (by omega) (by omega) (by omega)
                         rw [cif_f (by decide)] at e
                         exact e)
                  · refine o_iload_n (n := 146) rfl rfl rfl ?_
                    refine o_if_eq (n := 149) (t := 153) rfl rfl rfl (fun k146 => ?_) (fun k146 => ?_)
                    · refine o_iconst (n := 154) rfl rfl ?_
                      refine o_iadd (n := 155) rfl rfl (by omega) ?_
                      refine o_istore_2 (n := 156) rfl rfl rfl ?_
                      refine o_iinc_4 (n := 159) rfl rfl rfl (by omega) ?_
                      refine o_goto (t := 9) rfl rfl ?_
                      first
                        | (exfalso; omega; done)
                        | (have hz : ld = 0 ∧ (97 ≤ g 21 0 k ∧ g 21 0 k ≤ 96 + g 8 0 5) ∧ v1 < 6 := by omega
                           obtain ⟨hz, hl, h6⟩ := hz
                           subst hz
                           rw [cif_t rfl, fr_l ⟨hl, h6⟩]
                           have e := ih (k + 1) (v1 + 1) (v2 + 0) 0 (vI (g 21 0 k)) (vI 1) (by omega) (by omega) (by omega) (by omega) (by omega) (by omega) (by omega) (by omega)
                           rw [cif_t rfl] at e
                           exact e)
                        | (have hz : ld = 1 ∧ (97 ≤ g 21 0 k ∧ g 21 0 k ≤ 96 + g 8 0 5) ∧ v2 < 6 := by omega
                           obtain ⟨hz, hl, h6⟩ := hz
                           subst hz
                           rw [cif_f (by decide), fr_l ⟨hl, h6⟩]
                           have e := ih (k + 1) (v1 + 0) (v2 + 1) 1 (vI (g 21 0 k)) (vI 1) (by omega) (by omega) (by omega) (by omega) (by omega) (by omega) (by omega) (by omega)
                           rw [cif_f (by decide)] at e
                           exact e)
                        | (have hz : ld = 0 ∧ ¬ (97 ≤ g 21 0 k ∧ g 21 0 k ≤ 96 + g 8 0 5) ∧ (g 21 0 k = 62 ∨ g 21 0 k = 61) ∧ 0 < v1 ∧ v2 = 0 := by omega
                           obtain ⟨hz, hl, h6, h7, h8⟩ := hz
                           subst hz
                           subst h8
                           rw [cif_t rfl, fr_a (fun z => hl z.1) ⟨h6, rfl, h7⟩]
                           have e := ih (k + 1) (v1 + 0) (0 + 0) 1 (vI (g 21 0 k)) (vI 1) (by omega) (by omega) (by omega) (by omega) (by omega) (by omega) (by omega) (by omega)
                           rw [cif_f (by decide)] at e
                           exact e)
                    · refine o_iconst (n := 150) rfl rfl ?_
                      refine o_goto (t := 154) rfl rfl ?_
                      refine o_iadd (n := 155) rfl rfl (by omega) ?_
                      refine o_istore_2 (n := 156) rfl rfl rfl ?_
                      refine o_iinc_4 (n := 159) rfl rfl rfl (by omega) ?_
                      refine o_goto (t := 9) rfl rfl ?_
                      first
                        | (exfalso; omega; done)
                        | (have hz : ld = 0 ∧ (97 ≤ g 21 0 k ∧ g 21 0 k ≤ 96 + g 8 0 5) ∧ v1 < 6 := by omega
                           obtain ⟨hz, hl, h6⟩ := hz
                           subst hz
                           rw [cif_t rfl, fr_l ⟨hl, h6⟩]
                           have e := ih (k + 1) (v1 + 1) (v2 + 0) 0 (vI (g 21 0 k)) (vI 1) (by omega) (by omega) (by omega) (by omega) (by omega) (by omega) (by omega) (by omega)
                           rw [cif_t rfl] at e
                           exact e)
                        | (have hz : ld = 1 ∧ (97 ≤ g 21 0 k ∧ g 21 0 k ≤ 96 + g 8 0 5) ∧ v2 < 6 := by omega
                           obtain ⟨hz, hl, h6⟩ := hz
                           subst hz
                           rw [cif_f (by decide), fr_l ⟨hl, h6⟩]
                           have e := ih (k + 1) (v1 + 0) (v2 + 1) 1 (vI (g 21 0 k)) (vI 1) (by omega) (by omega) (by omega) (by omega) (by omega) (by omega) (by omega) (by omega)
                           rw [cif_f (by decide)] at e
                           exact e)
                        | (have hz : ld = 0 ∧ ¬ (97 ≤ g 21 0 k ∧ g 21 0 k ≤ 96 + g 8 0 5) ∧ (g 21 0 k = 62 ∨ g 21 0 k = 61) ∧ 0 < v1 ∧ v2 = 0 := by omega
                           obtain ⟨hz, hl, h6, h7, h8⟩ := hz
                           subst hz
                           subst h8
                           rw [cif_t rfl, fr_a (fun z => hl z.1) ⟨h6, rfl, h7⟩]
                           have e := ih (k + 1) (v1 + 0) (0 + 0) 1 (vI (g 21 0 k)) (vI 1) (by omega) (by omega) (by omega) (by omega) (by omega) (by omega) (by omega) (by omega)
                           rw [cif_f (by decide)] at e
                           exact e)
                · refine o_iconst (n := 129) rfl rfl ?_
                  refine o_goto (t := 133) rfl rfl ?_
                  refine o_iadd (n := 134) rfl rfl (by omega) ?_
                  refine o_istore_1 (n := 135) rfl rfl rfl ?_
                  refine o_iload_n (n := 136) rfl rfl rfl ?_
                  refine o_aload_n (n := 137) rfl rfl rfl ?_
                  refine o_iload (n := 139) rfl rfl rfl ?_
                  refine o_invi (n := 142) rfl rfl rfl rfl rfl rfl rfl rfl rfl rfl (c8_isSign _ hs0 hs1) ?_
                  refine o_ifb_eq (n := 145) (t := 153) rfl rfl rfl (fun k142 => ?_) (fun k142 => ?_)
                  · refine o_iconst (n := 154) rfl rfl ?_
                    refine o_iadd (n := 155) rfl rfl (by omega) ?_
                    refine o_istore_2 (n := 156) rfl rfl rfl ?_
                    refine o_iinc_4 (n := 159) rfl rfl rfl (by omega) ?_
                    refine o_goto (t := 9) rfl rfl ?_
                    first
                      | (exfalso; omega; done)
                      | (have hz : ld = 0 ∧ (97 ≤ g 21 0 k ∧ g 21 0 k ≤ 96 + g 8 0 5) ∧ v1 < 6 := by omega
                         obtain ⟨hz, hl, h6⟩ := hz
                         subst hz
                         rw [cif_t rfl, fr_l ⟨hl, h6⟩]
                         have e := ih (k + 1) (v1 + 1) (v2 + 0) 0 (vI (g 21 0 k)) (vI 1) (by omega) (by omega) (by omega) (by omega) (by omega) (by omega) (by omega) (by omega)
                         rw [cif_t rfl] at e
                         exact e)
                      | (have hz : ld = 1 ∧ (97 ≤ g 21 0 k ∧ g 21 0 k ≤ 96 + g 8 0 5) ∧ v2 < 6 := by omega
                         obtain ⟨hz, hl, h6⟩ := hz
                         subst hz
                         rw [cif_f (by decide), fr_l ⟨hl, h6⟩]
                         have e := ih (k + 1) (v1 + 0) (v2 + 1) 1 (vI (g 21 0 k)) (vI 1) (by omega) (by omega) (by omega) (by omega) (by omega) (by omega) (by omega) (by omega)
                         rw [cif_f (by decide)] at e
                         exact e)
                      | (have hz : ld = 0 ∧ ¬ (97 ≤ g 21 0 k ∧ g 21 0 k ≤ 96 + g 8 0 5) ∧ (g 21 0 k = 62 ∨ g 21 0 k = 61) ∧ 0 < v1 ∧ v2 = 0 := by omega
                         obtain ⟨hz, hl, h6, h7, h8⟩ := hz
                         subst hz
                         subst h8
                         rw [cif_t rfl, fr_a (fun z => hl z.1) ⟨h6, rfl, h7⟩]
                         have e := ih (k + 1) (v1 + 0) (0 + 0) 1 (vI (g 21 0 k)) (vI 1) (by omega) (by omega) (by omega) (by omega) (by omega) (by omega) (by omega) (by omega)
                         rw [cif_f (by decide)] at e
                         exact e)
                  · refine o_iload_n (n := 146) rfl rfl rfl ?_
                    refine o_if_eq (n := 149) (t := 153) rfl rfl rfl (fun k146 => ?_) (fun k146 => ?_)
                    · refine o_iconst (n := 154) rfl rfl ?_
                      refine o_iadd (n := 155) rfl rfl (by omega) ?_
                      refine o_istore_2 (n := 156) rfl rfl rfl ?_
                      refine o_iinc_4 (n := 159) rfl rfl rfl (by omega) ?_
                      refine o_goto (t := 9) rfl rfl ?_
                      first
                        | (exfalso; omega; done)
                        | (have hz : ld = 0 ∧ (97 ≤ g 21 0 k ∧ g 21 0 k ≤ 96 + g 8 0 5) ∧ v1 < 6 := by omega
                           obtain ⟨hz, hl, h6⟩ := hz
                           subst hz
                           rw [cif_t rfl, fr_l ⟨hl, h6⟩]
                           have e := ih (k + 1) (v1 + 1) (v2 + 0) 0 (vI (g 21 0 k)) (vI 1) (by omega) (by omega) (by omega) (by omega) (by omega) (by omega) (by omega) (by omega)
                           rw [cif_t rfl] at e
                           exact e)
                        | (have hz : ld = 1 ∧ (97 ≤ g 21 0 k ∧ g 21 0 k ≤ 96 + g 8 0 5) ∧ v2 < 6 := by omega
                           obtain ⟨hz, hl, h6⟩ := hz
                           subst hz
                           rw [cif_f (by decide), fr_l ⟨hl, h6⟩]
                           have e := ih (k + 1) (v1 + 0) (v2 + 1) 1 (vI (g 21 0 k)) (vI 1) (by omega) (by omega) (by omega) (by omega) (by omega) (by omega) (by omega) (by omega)
                           rw [cif_f (by decide)] at e
                           exact e)
                        | (have hz : ld = 0 ∧ ¬ (97 ≤ g 21 0 k ∧ g 21 0 k ≤ 96 + g 8 0 5) ∧ (g 21 0 k = 62 ∨ g 21 0 k = 61) ∧ 0 < v1 ∧ v2 = 0 := by omega
                           obtain ⟨hz, hl, h6, h7, h8⟩ := hz
                           subst hz
                           subst h8
                           rw [cif_t rfl, fr_a (fun z => hl z.1) ⟨h6, rfl, h7⟩]
                           have e := ih (k + 1) (v1 + 0) (0 + 0) 1 (vI (g 21 0 k)) (vI 1) (by omega) (by omega) (by omega) (by omega) (by omega) (by omega) (by omega) (by omega)
                           rw [cif_f (by decide)] at e
                           exact e)
                    · refine o_iconst (n := 150) rfl rfl ?_
                      refine o_goto (t := 154) rfl rfl ?_
                      refine o_iadd (n := 155) rfl rfl (by omega) ?_
                      refine o_istore_2 (n := 156) rfl rfl rfl ?_
                      refine o_iinc_4 (n := 159) rfl rfl rfl (by omega) ?_
                      refine o_goto (t := 9) rfl rfl ?_
                      first
                        | (exfalso; omega; done)
                        | (have hz : ld = 0 ∧ (97 ≤ g 21 0 k ∧ g 21 0 k ≤ 96 + g 8 0 5) ∧ v1 < 6 := by omega
                           obtain ⟨hz, hl, h6⟩ := hz
                           subst hz
                           rw [cif_t rfl, fr_l ⟨hl, h6⟩]
                           have e := ih (k + 1) (v1 + 1) (v2 + 0) 0 (vI (g 21 0 k)) (vI 1) (by omega) (by omega) (by omega) (by omega) (by omega) (by omega) (by omega) (by omega)
                           rw [cif_t rfl] at e
                           exact e)
                        | (have hz : ld = 1 ∧ (97 ≤ g 21 0 k ∧ g 21 0 k ≤ 96 + g 8 0 5) ∧ v2 < 6 := by omega
                           obtain ⟨hz, hl, h6⟩ := hz
                           subst hz
                           rw [cif_f (by decide), fr_l ⟨hl, h6⟩]
                           have e := ih (k + 1) (v1 + 0) (v2 + 1) 1 (vI (g 21 0 k)) (vI 1) (by omega) (by omega) (by omega) (by omega) (by omega) (by omega) (by omega) (by omega)
                           rw [cif_f (by decide)] at e
                           exact e)
                        | (have hz : ld = 0 ∧ ¬ (97 ≤ g 21 0 k ∧ g 21 0 k ≤ 96 + g 8 0 5) ∧ (g 21 0 k = 62 ∨ g 21 0 k = 61) ∧ 0 < v1 ∧ v2 = 0 := by omega
                           obtain ⟨hz, hl, h6, h7, h8⟩ := hz
                           subst hz
                           subst h8
                           rw [cif_t rfl, fr_a (fun z => hl z.1) ⟨h6, rfl, h7⟩]
                           have e := ih (k + 1) (v1 + 0) (0 + 0) 1 (vI (g 21 0 k)) (vI 1) (by omega) (by omega) (by omega) (by omega) (by omega) (by omega) (by omega) (by omega)
                           rw [cif_f (by decide)] at e
                           exact e)
            · refine o_aload_n (n := 100) rfl rfl rfl ?_
              refine o_iload (n := 102) rfl rfl rfl ?_
              refine o_invi (n := 105) rfl rfl rfl rfl rfl rfl rfl rfl rfl rfl (c8_isSign _ hs0 hs1) ?_
              refine o_ifb_ne (n := 108) (t := 112) rfl rfl rfl (fun k105 => ?_) (fun k105 => ?_)
              · refine o_iconst (n := 113) rfl rfl ?_
                refine o_istore_3 (n := 114) rfl rfl rfl ?_
                refine o_iload_n (n := 115) rfl rfl rfl ?_
                refine o_aload_n (n := 116) rfl rfl rfl ?_
                refine o_iload (n := 118) rfl rfl rfl ?_
                refine o_invi (n := 121) rfl rfl rfl rfl rfl rfl rfl rfl rfl rfl (c8_isSign _ hs0 hs1) ?_
                refine o_ifb_eq (n := 124) (t := 132) rfl rfl rfl (fun k121 => ?_) (fun k121 => ?_)
                · refine o_iconst (n := 133) rfl rfl ?_
                  refine o_iadd (n := 134) rfl rfl (by omega) ?_
                  refine o_istore_1 (n := 135) rfl rfl rfl ?_
                  refine o_iload_n (n := 136) rfl rfl rfl ?_
                  refine o_aload_n (n := 137) rfl rfl rfl ?_
                  refine o_iload (n := 139) rfl rfl rfl ?_
                  refine o_invi (n := 142) rfl rfl rfl rfl rfl rfl rfl rfl rfl rfl (c8_isSign _ hs0 hs1) ?_
                  refine o_ifb_eq (n := 145) (t := 153) rfl rfl rfl (fun k142 => ?_) (fun k142 => ?_)
                  · refine o_iconst (n := 154) rfl rfl ?_
                    refine o_iadd (n := 155) rfl rfl (by omega) ?_
                    refine o_istore_2 (n := 156) rfl rfl rfl ?_
                    refine o_iinc_4 (n := 159) rfl rfl rfl (by omega) ?_
                    refine o_goto (t := 9) rfl rfl ?_
                    first
                      | (exfalso; omega; done)
                      | (have hz : ld = 0 ∧ (97 ≤ g 21 0 k ∧ g 21 0 k ≤ 96 + g 8 0 5) ∧ v1 < 6 := by omega
                         obtain ⟨hz, hl, h6⟩ := hz
                         subst hz
                         rw [cif_t rfl, fr_l ⟨hl, h6⟩]
                         have e := ih (k + 1) (v1 + 1) (v2 + 0) 0 (vI (g 21 0 k)) (vI 1) (by omega) (by omega) (by omega) (by omega) (by omega) (by omega) (by omega) (by omega)
                         rw [cif_t rfl] at e
                         exact e)
                      | (have hz : ld = 1 ∧ (97 ≤ g 21 0 k ∧ g 21 0 k ≤ 96 + g 8 0 5) ∧ v2 < 6 := by omega
                         obtain ⟨hz, hl, h6⟩ := hz
                         subst hz
                         rw [cif_f (by decide), fr_l ⟨hl, h6⟩]
                         have e := ih (k + 1) (v1 + 0) (v2 + 1) 1 (vI (g 21 0 k)) (vI 1) (by omega) (by omega) (by omega) (by omega) (by omega) (by omega) (by omega) (by omega)
                         rw [cif_f (by decide)] at e
                         exact e)
                      | (have hz : ld = 0 ∧ ¬ (97 ≤ g 21 0 k ∧ g 21 0 k ≤ 96 + g 8 0 5) ∧ (g 21 0 k = 62 ∨ g 21 0 k = 61) ∧ 0 < v1 ∧ v2 = 0 := by omega
                         obtain ⟨hz, hl, h6, h7, h8⟩ := hz
                         subst hz
                         subst h8
                         rw [cif_t rfl, fr_a (fun z => hl z.1) ⟨h6, rfl, h7⟩]
                         have e := ih (k + 1) (v1 + 0) (0 + 0) 1 (vI (g 21 0 k)) (vI 1) (by omega) (by omega) (by omega) (by omega) (by omega) (by omega) (by omega) (by omega)
                         rw [cif_f (by decide)] at e
                         exact e)
                  · refine o_iload_n (n := 146) rfl rfl rfl ?_
                    refine o_if_eq (n := 149) (t := 153) rfl rfl rfl (fun k146 => ?_) (fun k146 => ?_)
                    · refine o_iconst (n := 154) rfl rfl ?_
                      refine o_iadd (n := 155) rfl rfl (by omega) ?_
                      refine o_istore_2 (n := 156) rfl rfl rfl ?_
                      refine o_iinc_4 (n := 159) rfl rfl rfl (by omega) ?_
                      refine o_goto (t := 9) rfl rfl ?_
                      first
                        | (exfalso; omega; done)
                        | (have hz : ld = 0 ∧ (97 ≤ g 21 0 k ∧ g 21 0 k ≤ 96 + g 8 0 5) ∧ v1 < 6 := by omega
                           obtain ⟨hz, hl, h6⟩ := hz
                           subst hz
                           rw [cif_t rfl, fr_l ⟨hl, h6⟩]
                           have e := ih (k + 1) (v1 + 1) (v2 + 0) 0 (vI (g 21 0 k)) (vI 1) (by omega) (by omega) (by omega) (by omega) (by omega) (by omega) (by omega) (by omega)
                           rw [cif_t rfl] at e
                           exact e)
                        | (have hz : ld = 1 ∧ (97 ≤ g 21 0 k ∧ g 21 0 k ≤ 96 + g 8 0 5) ∧ v2 < 6 := by omega
                           obtain ⟨hz, hl, h6⟩ := hz
                           subst hz
                           rw [cif_f (by decide), fr_l ⟨hl, h6⟩]
                           have e := ih (k + 1) (v1 + 0) (v2 + 1) 1 (vI (g 21 0 k)) (vI 1) (by omega) (by omega) (by omega) (by omega) (by omega) (by omega) (by omega) (by omega)
                           rw [cif_f (by decide)] at e
                           exact e)
                        | (have hz : ld = 0 ∧ ¬ (97 ≤ g 21 0 k ∧ g 21 0 k ≤ 96 + g 8 0 5) ∧ (g 21 0 k = 62 ∨ g 21 0 k = 61) ∧ 0 < v1 ∧ v2 = 0 := by omega
                           obtain ⟨hz, hl, h6, h7, h8⟩ := hz
                           subst hz
                           subst h8
                           rw [cif_t rfl, fr_a (fun z => hl z.1) ⟨h6, rfl, h7⟩]
                           have e := ih (k + 1) (v1 + 0) (0 + 0) 1 (vI (g 21 0 k)) (vI 1) (by omega) (by omega) (by omega) (by omega) (by omega) (by omega) (by omega) (by omega)
                           rw [cif_f (by decide)] at e
                           exact e)
                    · refine o_iconst (n := 150) rfl rfl ?_
                      refine o_goto (t := 154) rfl rfl ?_
                      refine o_iadd (n := 155) rfl rfl (by omega) ?_
                      refine o_istore_2 (n := 156) rfl rfl rfl ?_
                      refine o_iinc_4 (n := 159) rfl rfl rfl (by omega) ?_
                      refine o_goto (t := 9) rfl rfl ?_
                      first
                        | (exfalso; omega; done)
                        | (have hz : ld = 0 ∧ (97 ≤ g 21 0 k ∧ g 21 0 k ≤ 96 + g 8 0 5) ∧ v1 < 6 := by omega
                           obtain ⟨hz, hl, h6⟩ := hz
                           subst hz
                           rw [cif_t rfl, fr_l ⟨hl, h6⟩]
                           have e := ih (k + 1) (v1 + 1) (v2 + 0) 0 (vI (g 21 0 k)) (vI 1) (by omega) (by omega) (by omega) (by omega) (by omega) (by omega) (by omega) (by omega)
                           rw [cif_t rfl] at e
                           exact e)
                        | (have hz : ld = 1 ∧ (97 ≤ g 21 0 k ∧ g 21 0 k ≤ 96 + g 8 0 5) ∧ v2 < 6 := by omega
                           obtain ⟨hz, hl, h6⟩ := hz
                           subst hz
                           rw [cif_f (by decide), fr_l ⟨hl, h6⟩]
                           have e := ih (k + 1) (v1 + 0) (v2 + 1) 1 (vI (g 21 0 k)) (vI 1) (by omega) (by omega) (by omega) (by omega) (by omega) (by omega) (by omega) (by omega)
                           rw [cif_f (by decide)] at e
                           exact e)
                        | (have hz : ld = 0 ∧ ¬ (97 ≤ g 21 0 k ∧ g 21 0 k ≤ 96 + g 8 0 5) ∧ (g 21 0 k = 62 ∨ g 21 0 k = 61) ∧ 0 < v1 ∧ v2 = 0 := by omega
                           obtain ⟨hz, hl, h6, h7, h8⟩ := hz
                           subst hz
                           subst h8
                           rw [cif_t rfl, fr_a (fun z => hl z.1) ⟨h6, rfl, h7⟩]
                           have e := ih (k + 1) (v1 + 0) (0 + 0) 1 (vI (g 21 0 k)) (vI 1) (by omega) (by omega) (by omega) (by omega) (by omega) (by omega) (by omega) (by omega)
                           rw [cif_f (by decide)] at e
                           exact e)
                · refine o_iload_n (n := 125) rfl rfl rfl ?_
                  refine o_if_ne (n := 128) (t := 132) rfl rfl rfl (fun k125 => ?_) (fun k125 => ?_)
                  · refine o_iconst (n := 133) rfl rfl ?_
                    refine o_iadd (n := 134) rfl rfl (by omega) ?_
                    refine o_istore_1 (n := 135) rfl rfl rfl ?_
                    refine o_iload_n (n := 136) rfl rfl rfl ?_
                    refine o_aload_n (n := 137) rfl rfl rfl ?_
                    refine o_iload (n := 139) rfl rfl rfl ?_
                    refine o_invi (n := 142) rfl rfl rfl rfl rfl rfl rfl rfl rfl rfl (c8_isSign _ hs0 hs1) ?_
                    refine o_ifb_eq (n := 145) (t := 153) rfl rfl rfl (fun k142 => ?_) (fun k142 => ?_)
                    · refine o_iconst (n := 154) rfl rfl ?_
                      refine o_iadd (n := 155) rfl rfl (by omega) ?_
                      refine o_istore_2 (n := 156) rfl rfl rfl ?_
                      refine o_iinc_4 (n := 159) rfl rfl rfl (by omega) ?_
                      refine o_goto (t := 9) rfl rfl ?_
                      first
                        | (exfalso; omega; done)
                        | (have hz : ld = 0 ∧ (97 ≤ g 21 0 k ∧ g 21 0 k ≤ 96 + g 8 0 5) ∧ v1 < 6 := by omega
                           obtain ⟨hz, hl, h6⟩ := hz
                           subst hz
                           rw [cif_t rfl, fr_l ⟨hl, h6⟩]
                           have e := ih (k + 1) (v1 + 1) (v2 + 0) 0 (vI (g 21 0 k)) (vI 1) (by omega) (by omega) (by omega) (by omega) (by omega) (by omega) (by omega) (by omega)
                           rw [cif_t rfl] at e
                           exact e)
                        | (have hz : ld = 1 ∧ (97 ≤ g 21 0 k ∧ g 21 0 k ≤ 96 + g 8 0 5) ∧ v2 < 6 := by omega
                           obtain ⟨hz, hl, h6⟩ := hz
                           subst hz
                           rw [cif_f (by decide), fr_l ⟨hl, h6⟩]
                           have e := ih (k + 1) (v1 + 0) (v2 + 1) 1 (vI (g 21 0 k)) (vI 1) (by omega) (by omega) (by omega) (by omega) (by omega) (by omega) (by omega) (by omega)
                           rw [cif_f (by decide)] at e
                           exact e)
                        | (have hz : ld = 0 ∧ ¬ (97 ≤ g 21 0 k ∧ g 21 0 k ≤ 96 + g 8 0 5) ∧ (g 21 0 k = 62 ∨ g 21 0 k = 61) ∧ 0 < v1 ∧ v2 = 0 := by omega
                           obtain ⟨hz, hl, h6, h7, h8⟩ := hz
                           subst hz
                           subst h8
                           rw [cif_t rfl, fr_a (fun z => hl z.1) ⟨h6, rfl, h7⟩]
                           have e := ih (k + 1) (v1 + 0) (0 + 0) 1 (vI (g 21 0 k)) (vI 1) (by omega) (by omega) (by omega) (by omega) (by omega) (by omega) (by omega) (by omega)
                           rw [cif_f (by decide)] at e
                           exact e)
                    · refine o_iload_n (n := 146) rfl rfl rfl ?_
                      refine o_if_eq (n := 149) (t := 153) rfl rfl rfl (fun k146 => ?_) (fun k146 => ?_)
                      · refine o_iconst (n := 154) rfl rfl ?_
                        refine o_iadd (n := 155) rfl rfl (by omega) ?_
                        refine o_istore_2 (n := 156) rfl rfl rfl ?_
                        refine o_iinc_4 (n := 159) rfl rfl rfl (by omega) ?_
                        refine o_goto (t := 9) rfl rfl ?_
                        first
                          | (exfalso; omega; done)
                          | (have hz : ld = 0 ∧ (97 ≤ g 21 0 k ∧ g 21 0 k ≤ 96 + g 8 0 5) ∧ v1 < 6 := by omega
                             obtain ⟨hz, hl, h6⟩ := hz
                             subst hz
                             rw [cif_t rfl, fr_l ⟨hl, h6⟩]
                             have e := ih (k + 1) (v1 + 1) (v2 + 0) 0 (vI (g 21 0 k)) (vI 1) (by omega) (by omega) (by omega) (by omega) (by omega) (by omega) (by omega) (by omega)
                             rw [cif_t rfl] at e
                             exact e)
                          | (have hz : ld = 1 ∧ (97 ≤ g 21 0 k ∧ g 21 0 k ≤ 96 + g 8 0 5) ∧ v2 < 6 := by omega
                             obtain ⟨hz, hl, h6⟩ := hz
                             subst hz
                             rw [cif_f (by decide), fr_l ⟨hl, h6⟩]
                             have e := ih (k + 1) (v1 + 0) (v2 + 1) 1 (vI (g 21 0 k)) (vI 1) (by omega) (by omega) (by omega) (by omega) (by omega) (by omega) (by omega) (by omega)
                             rw [cif_f (by decide)] at e
                             exact e)
                          | (have hz : ld = 0 ∧ ¬ (97 ≤ g 21 0 k ∧ g 21 0 k ≤ 96 + g 8 0 5) ∧ (g 21 0 k = 62 ∨ g 21 0 k = 61) ∧ 0 < v1 ∧ v2 = 0 := by omega
                             obtain ⟨hz, hl, h6, h7, h8⟩ := hz
                             subst hz
                             subst h8
                             rw [cif_t rfl, fr_a (fun z => hl z.1) ⟨h6, rfl, h7⟩]
                             have e := ih (k + 1) (v1 + 0) (0 + 0) 1 (vI (g 21 0 k)) (vI 1) (by omega) (by omega) (by omega) (by omega) (by omega) (by omega) (by omega) (by omega)
                             rw [cif_f (by decide)] at e
                             exact e)
                      · refine o_iconst (n := 150) rfl rfl ?_
                        refine o_goto (t := 154) rfl rfl ?_
                        refine o_iadd (n := 155) rfl rfl (by omega) ?_
                        refine o_istore_2 (n := 156) rfl rfl rfl ?_
                        refine o_iinc_4 (n := 159) rfl rfl rfl (by omega) ?_
                        refine o_goto (t := 9) rfl rfl ?_
                        first
                          | (exfalso; omega; done)
                          | (have hz : ld = 0 ∧ (97 ≤ g 21 0 k ∧ g 21 0 k ≤ 96 + g 8 0 5) ∧ v1 < 6 := by omega
                             obtain ⟨hz, hl, h6⟩ := hz
                             subst hz
                             rw [cif_t rfl, fr_l ⟨hl, h6⟩]
                             have e := ih (k + 1) (v1 + 1) (v2 + 0) 0 (vI (g 21 0 k)) (vI 1) (by omega) (by omega) (by omega) (by omega) (by omega) (by omega) (by omega) (by omega)
                             rw [cif_t rfl] at e
                             exact e)
                          | (have hz : ld = 1 ∧ (97 ≤ g 21 0 k ∧ g 21 0 k ≤ 96 + g 8 0 5) ∧ v2 < 6 := by omega
                             obtain ⟨hz, hl, h6⟩ := hz
                             subst hz
                             rw [cif_f (by decide), fr_l ⟨hl, h6⟩]
                             have e := ih (k + 1) (v1 + 0) (v2 + 1) 1 (vI (g 21 0 k)) (vI 1) (by omega) (by omega) (by omega) (by omega) (by omega) (by omega) (by omega) (by omega)
                             rw [cif_f (by decide)] at e
                             exact e)
                          | (have hz : ld = 0 ∧ ¬ (97 ≤ g 21 0 k ∧ g 21 0 k ≤ 96 + g 8 0 5) ∧ (g 21 0 k = 62 ∨ g 21 0 k = 61) ∧ 0 < v1 ∧ v2 = 0 := by omega
                             obtain ⟨hz, hl, h6, h7, h8⟩ := hz
                             subst hz
                             subst h8
                             rw [cif_t rfl, fr_a (fun z => hl z.1) ⟨h6, rfl, h7⟩]
                             have e := ih (k + 1) (v1 + 0) (0 + 0) 1 (vI (g 21 0 k)) (vI 1) (by omega) (by omega) (by omega) (by omega) (by omega) (by omega) (by omega) (by omega)
                             rw [cif_f (by decide)] at e
                             exact e)
                  · refine o_iconst (n := 129) rfl rfl ?_
                    refine o_goto (t := 133) rfl rfl ?_
                    refine o_iadd (n := 134) rfl rfl (by omega) ?_
                    refine o_istore_1 (n := 135) rfl rfl rfl ?_
                    refine o_iload_n (n := 136) rfl rfl rfl ?_
                    refine o_aload_n (n := 137) rfl rfl rfl ?_
                    refine o_iload (n := 139) rfl rfl rfl ?_
                    refine o_invi (n := 142) rfl rfl rfl rfl rfl rfl rfl rfl rfl rfl (c8_isSign _ hs0 hs1) ?_
                    refine o_ifb_eq (n := 145) (t := 153) rfl rfl rfl (fun k142 => ?_) (fun k142 => ?_)
                    · refine o_iconst (n := 154) rfl rfl ?_
                      refine o_iadd (n := 155) rfl rfl (by omega) ?_
                      refine o_istore_2 (n := 156) rfl rfl rfl ?_
                      refine o_iinc_4 (n := 159) rfl rfl rfl (by omega) ?_
                      refine o_goto (t := 9) rfl rfl ?_
                      first
                        | (exfalso; omega; done)
                        | (have hz : ld = 0 ∧ (97 ≤ g 21 0 k ∧ g 21 0 k ≤ 96 + g 8 0 5) ∧ v1 < 6 := by omega
                           obtain ⟨hz, hl, h6⟩ := hz
                           subst hz
                           rw [cif_t rfl, fr_l ⟨hl, h6⟩]
                           have e := ih (k + 1) (v1 + 1) (v2 + 0) 0 (vI (g 21 0 k)) (vI 1) (by omega) (by omega) (by omega) (by omega) (by omega) (by omega) (by omega) (by omega)
                           rw [cif_t rfl] at e
                           exact e)
                        | (have hz : ld = 1 ∧ (97 ≤ g 21 0 k ∧ g 21 0 k ≤ 96 + g 8 0 5) ∧ v2 < 6 := by omega
                           obtain ⟨hz, hl, h6⟩ := hz
                           subst hz
                           rw [cif_f (by decide), fr_l ⟨hl, h6⟩]
                           have e := ih (k + 1) (v1 + 0) (v2 + 1) 1 (vI (g 21 0 k)) (vI 1) (by omega) (by omega) (by omega) (by omega) (by omega) (by omega) (by omega) (by omega)
                           rw [cif_f (by decide)] at e
                           exact e)
                        | (have hz : ld = 0 ∧ ¬ (97 ≤ g 21 0 k ∧ g 21 0 k ≤ 96 + g 8 0 5) ∧ (g 21 0 k = 62 ∨ g 21 0 k = 61) ∧ 0 < v1 ∧ v2 = 0 := by omega
                           obtain ⟨hz, hl, h6, h7, h8⟩ := hz
                           subst hz
                           subst h8
                           rw [cif_t rfl, fr_a (fun z => hl z.1) ⟨h6, rfl, h7⟩]
                           have e := ih (k + 1) (v1 + 0) (0 + 0) 1 (vI (g 21 0 k)) (vI 1) (by omega) (by omega) (by omega) (by omega) (by omega) (by omega) (by omega) (by omega)
                           rw [cif_f (by decide)] at e
                           exact e)
                    · refine o_iload_n (n := 146) rfl rfl rfl ?_
                      refine o_if_eq (n := 149) (t := 153) rfl rfl rfl (fun k146 => ?_) (fun k146 => ?_)
                      · refine o_iconst (n := 154) rfl rfl ?_
                        refine o_iadd (n := 155) rfl rfl (by omega) ?_
                        refine o_istore_2 (n := 156) rfl rfl rfl ?_
                        refine o_iinc_4 (n := 159) rfl rfl rfl (by omega) ?_
                        refine o_goto (t := 9) rfl rfl ?_
                        first
                          | (exfalso; omega; done)
                          | (have hz : ld = 0 ∧ (97 ≤ g 21 0 k ∧ g 21 0 k ≤ 96 + g 8 0 5) ∧ v1 < 6 := by omega
                             obtain ⟨hz, hl, h6⟩ := hz
                             subst hz
                             rw [cif_t rfl, fr_l ⟨hl, h6⟩]
                             have e := ih (k + 1) (v1 + 1) (v2 + 0) 0 (vI (g 21 0 k)) (vI 1) (by omega) (by omega) (by omega) (by omega) (by omega) (by omega) (by omega) (by omega)
                             rw [cif_t rfl] at e
                             exact e)
                          | (have hz : ld = 1 ∧ (97 ≤ g 21 0 k ∧ g 21 0 k ≤ 96 + g 8 0 5) ∧ v2 < 6 := by omega
                             obtain ⟨hz, hl, h6⟩ := hz
                             subst hz
                             rw [cif_f (by decide), fr_l ⟨hl, h6⟩]
                             have e := ih (k + 1) (v1 + 0) (v2 + 1) 1 (vI (g 21 0 k)) (vI 1) (by omega) (by omega) (by omega) (by omega) (by omega) (by omega) (by omega) (by omega)
                             rw [cif_f (by decide)] at e
                             exact e)
                          | (have hz : ld = 0 ∧ ¬ (97 ≤ g 21 0 k ∧ g 21 0 k ≤ 96 + g 8 0 5) ∧ (g 21 0 k = 62 ∨ g 21 0 k = 61) ∧ 0 < v1 ∧ v2 = 0 := by omega
                             obtain ⟨hz, hl, h6, h7, h8⟩ := hz
                             subst hz
                             subst h8
                             rw [cif_t rfl, fr_a (fun z => hl z.1) ⟨h6, rfl, h7⟩]
                             have e := ih (k + 1) (v1 + 0) (0 + 0) 1 (vI (g 21 0 k)) (vI 1) (by omega) (by omega) (by omega) (by omega) (by omega) (by omega) (by omega) (by omega)
                             rw [cif_f (by decide)] at e
                             exact e)
                      · refine o_iconst (n := 150) rfl rfl ?_
                        refine o_goto (t := 154) rfl rfl ?_
                        refine o_iadd (n := 155) rfl rfl (by omega) ?_
                        refine o_istore_2 (n := 156) rfl rfl rfl ?_
                        refine o_iinc_4 (n := 159) rfl rfl rfl (by omega) ?_
                        refine o_goto (t := 9) rfl rfl ?_
                        first
                          | (exfalso; omega; done)
                          | (have hz : ld = 0 ∧ (97 ≤ g 21 0 k ∧ g 21 0 k ≤ 96 + g 8 0 5) ∧ v1 < 6 := by omega
                             obtain ⟨hz, hl, h6⟩ := hz
                             subst hz
                             rw [cif_t rfl, fr_l ⟨hl, h6⟩]
                             have e := ih (k + 1) (v1 + 1) (v2 + 0) 0 (vI (g 21 0 k)) (vI 1) (by omega) (by omega) (by omega) (by omega) (by omega) (by omega) (by omega) (by omega)
                             rw [cif_t rfl] at e
                             exact e)
                          | (have hz : ld = 1 ∧ (97 ≤ g 21 0 k ∧ g 21 0 k ≤ 96 + g 8 0 5) ∧ v2 < 6 := by omega
                             obtain ⟨hz, hl, h6⟩ := hz
                             subst hz
                             rw [cif_f (by decide), fr_l ⟨hl, h6⟩]
                             have e := ih (k + 1) (v1 + 0) (v2 + 1) 1 (vI (g 21 0 k)) (vI 1) (by omega) (by omega) (by omega) (by omega) (by omega) (by omega) (by omega) (by omega)
                             rw [cif_f (by decide)] at e
                             exact e)
                          | (have hz : ld = 0 ∧ ¬ (97 ≤ g 21 0 k ∧ g 21 0 k ≤ 96 + g 8 0 5) ∧ (g 21 0 k = 62 ∨ g 21 0 k = 61) ∧ 0 < v1 ∧ v2 = 0 := by omega
                             obtain ⟨hz, hl, h6, h7, h8⟩ := hz
                             subst hz
                             subst h8
                             rw [cif_t rfl, fr_a (fun z => hl z.1) ⟨h6, rfl, h7⟩]
                             have e := ih (k + 1) (v1 + 0) (0 + 0) 1 (vI (g 21 0 k)) (vI 1) (by omega) (by omega) (by omega) (by omega) (by omega) (by omega) (by omega) (by omega)
                             rw [cif_f (by decide)] at e
                             exact e)
              · refine o_iconst (n := 109) rfl rfl ?_
                refine o_goto (t := 113) rfl rfl ?_
                refine o_istore_3 (n := 114) rfl rfl rfl ?_
                refine o_iload_n (n := 115) rfl rfl rfl ?_
                refine o_aload_n (n := 116) rfl rfl rfl ?_
                refine o_iload (n := 118) rfl rfl rfl ?_
                refine o_invi (n := 121) rfl rfl rfl rfl rfl rfl rfl rfl rfl rfl (c8_isSign _ hs0 hs1) ?_
                refine o_ifb_eq (n := 124) (t := 132) rfl rfl rfl (fun k121 => ?_) (fun k121 => ?_)
                · refine o_iconst (n := 133) rfl rfl ?_
                  refine o_iadd (n := 134) rfl rfl (by omega) ?_
                  refine o_istore_1 (n := 135) rfl rfl rfl ?_
                  refine o_iload_n (n := 136) rfl rfl rfl ?_
                  refine o_aload_n (n := 137) rfl rfl rfl ?_
                  refine o_iload (n := 139) rfl rfl rfl ?_
                  refine o_invi (n := 142) rfl rfl rfl rfl rfl rfl rfl rfl rfl rfl (c8_isSign _ hs0 hs1) ?_
                  refine o_ifb_eq (n := 145) (t := 153) rfl rfl rfl (fun k142 => ?_) (fun k142 => ?_)
                  · refine o_iconst (n := 154) rfl rfl ?_
                    refine o_iadd (n := 155) rfl rfl (by omega) ?_
                    refine o_istore_2 (n := 156) rfl rfl rfl ?_
                    refine o_iinc_4 (n := 159) rfl rfl rfl (by omega) ?_
                    refine o_goto (t := 9) rfl rfl ?_
                    first
                      | (exfalso; omega; done)
                      | (have hz : ld = 0 ∧ (97 ≤ g 21 0 k ∧ g 21 0 k ≤ 96 + g 8 0 5) ∧ v1 < 6 := by omega
                         obtain ⟨hz, hl, h6⟩ := hz
                         subst hz
                         rw [cif_t rfl, fr_l ⟨hl, h6⟩]
                         have e := ih (k + 1) (v1 + 1) (v2 + 0) 0 (vI (g 21 0 k)) (vI 1) (by omega) (by omega) (by omega) (by omega) (by omega) (by omega) (by omega) (by omega)
                         rw [cif_t rfl] at e
                         exact e)
                      | (have hz : ld = 1 ∧ (97 ≤ g 21 0 k ∧ g 21 0 k ≤ 96 + g 8 0 5) ∧ v2 < 6 := by omega
                         obtain ⟨hz, hl, h6⟩ := hz
                         subst hz
                         rw [cif_f (by decide), fr_l ⟨hl, h6⟩]
                         have e := ih (k + 1) (v1 + 0) (v2 + 1) 1 (vI (g 21 0 k)) (vI 1) (by omega) (by omega) (by omega) (by omega) (by omega) (by omega) (by omega) (by omega)
                         rw [cif_f (by decide)] at e
                         exact e)
                      | (have hz : ld = 0 ∧ ¬ (97 ≤ g 21 0 k ∧ g 21 0 k ≤ 96 + g 8 0 5) ∧ (g 21 0 k = 62 ∨ g 21 0 k = 61) ∧ 0 < v1 ∧ v2 = 0 := by omega
                         obtain ⟨hz, hl, h6, h7, h8⟩ := hz
                         subst hz
                         subst h8
                         rw [cif_t rfl, fr_a (fun z => hl z.1) ⟨h6, rfl, h7⟩]
                         have e := ih (k + 1) (v1 + 0) (0 + 0) 1 (vI (g 21 0 k)) (vI 1) (by omega) (by omega) (by omega) (by omega) (by omega) (by omega) (by omega) (by omega)
                         rw [cif_f (by decide)] at e
                         exact e)
                  · refine o_iload_n (n := 146) rfl rfl rfl ?_
                    refine o_if_eq (n := 149) (t := 153) rfl rfl rfl (fun k146 => ?_) (fun k146 => ?_)
                    · refine o_iconst (n := 154) rfl rfl ?_
                      refine o_iadd (n := 155) rfl rfl (by omega) ?_
                      refine o_istore_2 (n := 156) rfl rfl rfl ?_
                      refine o_iinc_4 (n := 159) rfl rfl rfl (by omega) ?_
                      refine o_goto (t := 9) rfl rfl ?_
                      first
                        | (exfalso; omega; done)
                        | (have hz : ld = 0 ∧ (97 ≤ g 21 0 k ∧ g 21 0 k ≤ 96 + g 8 0 5) ∧ v1 < 6 := by omega
                           obtain ⟨hz, hl, h6⟩ := hz
                           subst hz
                           rw [cif_t rfl, fr_l ⟨hl, h6⟩]
                           have e := ih (k + 1) (v1 + 1) (v2 + 0) 0 (vI (g 21 0 k)) (vI 1) (by omega) (by omega) (by omega) (by omega) (by omega) (by omega) (by omega) (by omega)
                           rw [cif_t rfl] at e
                           exact e)
                        | (have hz : ld = 1 ∧ (97 ≤ g 21 0 k ∧ g 21 0 k ≤ 96 + g 8 0 5) ∧ v2 < 6 := by omega
                           obtain ⟨hz, hl, h6⟩ := hz
                           subst hz
                           rw [cif_f (by decide), fr_l ⟨hl, h6⟩]
                           have e := ih (k + 1) (v1 + 0) (v2 + 1) 1 (vI (g 21 0 k)) (vI 1) (by omega) (by omega) (by omega) (by omega) (by omega) (by omega) (by omega) (by omega)
                           rw [cif_f (by decide)] at e
                           exact e)
                        | (have hz : ld = 0 ∧ ¬ (97 ≤ g 21 0 k ∧ g 21 0 k ≤ 96 + g 8 0 5) ∧ (g 21 0 k = 62 ∨ g 21 0 k = 61) ∧ 0 < v1 ∧ v2 = 0 := by omega
                           obtain ⟨hz, hl, h6, h7, h8⟩ := hz
                           subst hz
                           subst h8
                           rw [cif_t rfl, fr_a (fun z => hl z.1) ⟨h6, rfl, h7⟩]
                           have e := ih (k + 1) (v1 + 0) (0 + 0) 1 (vI (g 21 0 k)) (vI 1) (by omega) (by omega) (by omega) (by omega) (by omega) (by omega) (by omega) (by omega)
                           rw [cif_f (by decide)] at e
                           exact e)
                    · refine o_iconst (n := 150) rfl rfl ?_
                      refine o_goto (t := 154) rfl rfl ?_
                      refine o_iadd (n := 155) rfl rfl (by omega) ?_
                      refine o_istore_2 (n := 156) rfl rfl rfl ?_
                      refine o_iinc_4 (n := 159) rfl rfl rfl (by omega) ?_
                      refine o_goto (t := 9) rfl rfl ?_
                      first
                        | (exfalso; omega; done)
                        | (have hz : ld = 0 ∧ (97 ≤ g 21 0 k ∧ g 21 0 k ≤ 96 + g 8 0 5) ∧ v1 < 6 := by omega
                           obtain ⟨hz, hl, h6⟩ := hz
                           subst hz
                           rw [cif_t rfl, fr_l ⟨hl, h6⟩]
                           have e := ih (k + 1) (v1 + 1) (v2 + 0) 0 (vI (g 21 0 k)) (vI 1) (by omega) (by omega) (by omega) (by omega) (by omega) (by omega) (by omega) (by omega)
                           rw [cif_t rfl] at e
                           exact e)
                        | (have hz : ld = 1 ∧ (97 ≤ g 21 0 k ∧ g 21 0 k ≤ 96 + g 8 0 5) ∧ v2 < 6 := by omega
                           obtain ⟨hz, hl, h6⟩ := hz
                           subst hz
                           rw [cif_f (by decide), fr_l ⟨hl, h6⟩]
                           have e := ih (k + 1) (v1 + 0) (v2 + 1) 1 (vI (g 21 0 k)) (vI 1) (by omega) (by omega) (by omega) (by omega) (by omega) (by omega) (by omega) (by omega)
                           rw [cif_f (by decide)] at e
                           exact e)
                        | (have hz : ld = 0 ∧ ¬ (97 ≤ g 21 0 k ∧ g 21 0 k ≤ 96 + g 8 0 5) ∧ (g 21 0 k = 62 ∨ g 21 0 k = 61) ∧ 0 < v1 ∧ v2 = 0 := by omega
                           obtain ⟨hz, hl, h6, h7, h8⟩ := hz
                           subst hz
                           subst h8
                           rw [cif_t rfl, fr_a (fun z => hl z.1) ⟨h6, rfl, h7⟩]
                           have e := ih (k + 1) (v1 + 0) (0 + 0) 1 (vI (g 21 0 k)) (vI 1) (by omega) (by omega) (by omega) (by omega) (by omega) (by omega) (by omega) (by omega)
                           rw [cif_f (by decide)] at e
                           exact e)
                · refine o_iload_n (n := 125) rfl rfl rfl ?_
                  refine o_if_ne (n := 128) (t := 132) rfl rfl rfl (fun k125 => ?_) (fun k125 => ?_)
                  · refine o_iconst (n := 133) rfl rfl ?_
                    refine o_iadd (n := 134) rfl rfl (by omega) ?_
                    refine o_istore_1 (n := 135) rfl rfl rfl ?_
                    refine o_iload_n (n := 136) rfl rfl rfl ?_
                    refine o_aload_n (n := 137) rfl rfl rfl ?_
                    refine o_iload (n := 139) rfl rfl rfl ?_
                    refine o_invi (n := 142) rfl rfl rfl rfl rfl rfl rfl rfl rfl rfl (c8_isSign _ hs0 hs1) ?_
                    refine o_ifb_eq (n := 145) (t := 153) rfl rfl rfl (fun k142 => ?_) (fun k142 => ?_)
                    · refine o_iconst (n := 154) rfl rfl ?_
                      refine o_iadd (n := 155) rfl rfl (by omega) ?_
                      refine o_istore_2 (n := 156) rfl rfl rfl ?_
                      refine o_iinc_4 (n := 159) rfl rfl rfl (by omega) ?_
                      refine o_goto (t := 9) rfl rfl ?_
                      first
                        | (exfalso; omega; done)
                        | (have hz : ld = 0 ∧ (97 ≤ g 21 0 k ∧ g 21 0 k ≤ 96 + g 8 0 5) ∧ v1 < 6 := by omega
                           obtain ⟨hz, hl, h6⟩ := hz
                           subst hz
                           rw [cif_t rfl, fr_l ⟨hl, h6⟩]
                           have e := ih (k + 1) (v1 + 1) (v2 + 0) 0 (vI (g 21 0 k)) (vI 1) (by omega) (by omega) (by omega) (by omega) (by omega) (by omega) (by omega) (by omega)
                           rw [cif_t rfl] at e
                           exact e)
                        | (have hz : ld = 1 ∧ (97 ≤ g 21 0 k ∧ g 21 0 k ≤ 96 + g 8 0 5) ∧ v2 < 6 := by omega
                           obtain ⟨hz, hl, h6⟩ := hz
                           subst hz
                           rw [cif_f (by decide), fr_l ⟨hl, h6⟩]
                           have e := ih (k + 1) (v1 + 0) (v2 + 1) 1 (vI (g 21 0 k)) (vI 1) (by omega) (by omega) (by omega) (by omega) (by omega) (by omega) (by omega) (by omega)
                           rw [cif_f (by decide)] at e
                           exact e)
                        | (have hz : ld = 0 ∧ ¬ (97 ≤ g 21 0 k ∧ g 21 0 k ≤ 96 + g 8 0 5) ∧ (g 21 0 k = 62 ∨ g 21 0 k = 61) ∧ 0 < v1 ∧ v2 = 0 := by omega
                           obtain ⟨hz, hl, h6, h7, h8⟩ := hz
                           subst hz
                           subst h8
                           rw [cif_t rfl, fr_a (fun z => hl z.1) ⟨h6, rfl, h7⟩]
                           have e := ih (k + 1) (v1 + 0) (0 + 0) 1 (vI (g 21 0 k)) (vI 1) (by omega) (by omega) (by omega) (by omega) (by omega) (by omega) (by omega) (by omega)
                           rw [cif_f (by decide)] at e
                           exact e)
                    · refine o_iload_n (n := 146) rfl rfl rfl ?_
                      refine o_if_eq (n := 149) (t := 153) rfl rfl rfl (fun k146 => ?_) (fun k146 => ?_)
                      · refine o_iconst (n := 154) rfl rfl ?_
                        refine o_iadd (n := 155) rfl rfl (by omega) ?_
                        refine o_istore_2 (n := 156) rfl rfl rfl ?_
                        refine o_iinc_4 (n := 159) rfl rfl rfl (by omega) ?_
                        refine o_goto (t := 9) rfl rfl ?_
                        first
                          | (exfalso; omega; done)
                          | (have hz : ld = 0 ∧ (97 ≤ g 21 0 k ∧ g 21 0 k ≤ 96 + g 8 0 5) ∧ v1 < 6 := by omega
                             obtain ⟨hz, hl, h6⟩ := hz
                             subst hz
                             rw [cif_t rfl, fr_l ⟨hl, h6⟩]
                             have e := ih (k + 1) (v1 + 1) (v2 + 0) 0 (vI (g 21 0 k)) (vI 1) (by omega) (by omega) (by omega) (by omega) (by omega) (by omega) (by omega) (by omega)
                             rw [cif_t rfl] at e
                             exact e)
                          | (have hz : ld = 1 ∧ (97 ≤ g 21 0 k ∧ g 21 0 k ≤ 96 + g 8 0 5) ∧ v2 < 6 := by omega
                             obtain ⟨hz, hl, h6⟩ := hz
                             subst hz
                             rw [cif_f (by decide), fr_l ⟨hl, h6⟩]
                             have e := ih (k + 1) (v1 + 0) (v2 + 1) 1 (vI (g 21 0 k)) (vI 1) (by omega) (by omega) (by omega) (by omega) (by omega) (by omega) (by omega) (by omega)
                             rw [cif_f (by decide)] at e
                             exact e)
                          | (have hz : ld = 0 ∧ ¬ (97 ≤ g 21 0 k ∧ g 21 0 k ≤ 96 + g 8 0 5) ∧ (g 21 0 k = 62 ∨ g 21 0 k = 61) ∧ 0 < v1 ∧ v2 = 0 := by omega
                             obtain ⟨hz, hl, h6, h7, h8⟩ := hz
                             subst hz
                             subst h8
                             rw [cif_t rfl, fr_a (fun z => hl z.1) ⟨h6, rfl, h7⟩]
                             have e := ih (k + 1) (v1 + 0) (0 + 0) 1 (vI (g 21 0 k)) (vI 1) (by omega) (by omega) (by omega) (by omega) (by omega) (by omega) (by omega) (by omega)
                             rw [cif_f (by decide)] at e
                             exact e)
                      · refine o_iconst (n := 150) rfl rfl ?_
                        refine o_goto (t := 154) rfl rfl ?_
                        refine o_iadd (n := 155) rfl rfl (by omega) ?_
                        refine o_istore_2 (n := 156) rfl rfl rfl ?_
                        refine o_iinc_4 (n := 159) rfl rfl rfl (by omega) ?_
                        refine o_goto (t := 9) rfl rfl ?_
                        first
                          | (exfalso; omega; done)
                          | (have hz : ld = 0 ∧ (97 ≤ g 21 0 k ∧ g 21 0 k ≤ 96 + g 8 0 5) ∧ v1 < 6 := by omega
                             obtain ⟨hz, hl, h6⟩ := hz
                             subst hz
                             rw [cif_t rfl, fr_l ⟨hl, h6⟩]
                             have e := ih (k + 1) (v1 + 1) (v2 + 0) 0 (vI (g 21 0 k)) (vI 1) (by omega) (by omega) (by omega) (by omega) (by omega) (by omega) (by omega) (by omega)
                             rw [cif_t rfl] at e
                             exact e)
                          | (have hz : ld = 1 ∧ (97 ≤ g 21 0 k ∧ g 21 0 k ≤ 96 + g 8 0 5) ∧ v2 < 6 := by omega
                             obtain ⟨hz, hl, h6⟩ := hz
                             subst hz
                             rw [cif_f (by decide), fr_l ⟨hl, h6⟩]
                             have e := ih (k + 1) (v1 + 0) (v2 + 1) 1 (vI (g 21 0 k)) (vI 1) (by omega) (by omega) (by omega) (by omega) (by omega) (by omega) (by omega) (by omega)
                             rw [cif_f (by decide)] at e
                             exact e)
                          | (have hz : ld = 0 ∧ ¬ (97 ≤ g 21 0 k ∧ g 21 0 k ≤ 96 + g 8 0 5) ∧ (g 21 0 k = 62 ∨ g 21 0 k = 61) ∧ 0 < v1 ∧ v2 = 0 := by omega
                             obtain ⟨hz, hl, h6, h7, h8⟩ := hz
                             subst hz
                             subst h8
                             rw [cif_t rfl, fr_a (fun z => hl z.1) ⟨h6, rfl, h7⟩]
                             have e := ih (k + 1) (v1 + 0) (0 + 0) 1 (vI (g 21 0 k)) (vI 1) (by omega) (by omega) (by omega) (by omega) (by omega) (by omega) (by omega) (by omega)
                             rw [cif_f (by decide)] at e
                             exact e)
                  · refine o_iconst (n := 129) rfl rfl ?_
                    refine o_goto (t := 133) rfl rfl ?_
                    refine o_iadd (n := 134) rfl rfl (by omega) ?_
                    refine o_istore_1 (n := 135) rfl rfl rfl ?_
                    refine o_iload_n (n := 136) rfl rfl rfl ?_
                    refine o_aload_n (n := 137) rfl rfl rfl ?_
                    refine o_iload (n := 139) rfl rfl rfl ?_
                    refine o_invi (n := 142) rfl rfl rfl rfl rfl rfl rfl rfl rfl rfl (c8_isSign _ hs0 hs1) ?_
                    refine o_ifb_eq (n := 145) (t := 153) rfl rfl rfl (fun k142 => ?_) (fun k142 => ?_)
                    · refine o_iconst (n := 154) rfl rfl ?_
                      refine o_iadd (n := 155) rfl rfl (by omega) ?_
                      refine o_istore_2 (n := 156) rfl rfl rfl ?_
                      refine o_iinc_4 (n := 159) rfl rfl rfl (by omega) ?_
                      refine o_goto (t := 9) rfl rfl ?_
                      first
                        | (exfalso; omega; done)
                        | (have hz : ld = 0 ∧ (97 ≤ g 21 0 k ∧ g 21 0 k ≤ 96 + g 8 0 5) ∧ v1 < 6 := by omega
                           obtain ⟨hz, hl, h6⟩ := hz
                           subst hz
                           rw [cif_t rfl, fr_l ⟨hl, h6⟩]
                           have e := ih (k + 1) (v1 + 1) (v2 + 0) 0 (vI (g 21 0 k)) (vI 1) (by omega) (by omega) (by omega) (by omega) (by omega) (by omega) (by omega) (by omega)
                           rw [cif_t rfl] at e
                           exact e)
                        | (have hz : ld = 1 ∧ (97 ≤ g 21 0 k ∧ g 21 0 k ≤ 96 + g 8 0 5) ∧ v2 < 6 := by omega
                           obtain ⟨hz, hl, h6⟩ := hz
                           subst hz
                           rw [cif_f (by decide), fr_l ⟨hl, h6⟩]
                           have e := ih (k + 1) (v1 + 0) (v2 + 1) 1 (vI (g 21 0 k)) (vI 1) (by omega) (by omega) (by omega) (by omega) (by omega) (by omega) (by omega) (by omega)
                           rw [cif_f (by decide)] at e
                           exact e)
                        | (have hz : ld = 0 ∧ ¬ (97 ≤ g 21 0 k ∧ g 21 0 k ≤ 96 + g 8 0 5) ∧ (g 21 0 k = 62 ∨ g 21 0 k = 61) ∧ 0 < v1 ∧ v2 = 0 := by omega
                           obtain ⟨hz, hl, h6, h7, h8⟩ := hz
                           subst hz
                           subst h8
                           rw [cif_t rfl, fr_a (fun z => hl z.1) ⟨h6, rfl, h7⟩]
                           have e := ih (k + 1) (v1 + 0) (0 + 0) 1 (vI (g 21 0 k)) (vI 1) (by omega) (by omega) (by omega) (by omega) (by omega) (by omega) (by omega) (by omega)
                           rw [cif_f (by decide)] at e
                           exact e)
                    · refine o_iload_n (n := 146) rfl rfl rfl ?_
                      refine o_if_eq (n := 149) (t := 153) rfl rfl rfl (fun k146 => ?_) (fun k146 => ?_)
                      · refine o_iconst (n := 154) rfl rfl ?_
                        refine o_iadd (n := 155) rfl rfl (by omega) ?_
                        refine o_istore_2 (n := 156) rfl rfl rfl ?_
                        refine o_iinc_4 (n := 159) rfl rfl rfl (by omega) ?_
                        refine o_goto (t := 9) rfl rfl ?_
                        first
                          | (exfalso; omega; done)
                          | (have hz : ld = 0 ∧ (97 ≤ g 21 0 k ∧ g 21 0 k ≤ 96 + g 8 0 5) ∧ v1 < 6 := by omega
                             obtain ⟨hz, hl, h6⟩ := hz
                             subst hz
                             rw [cif_t rfl, fr_l ⟨hl, h6⟩]
                             have e := ih (k + 1) (v1 + 1) (v2 + 0) 0 (vI (g 21 0 k)) (vI 1) (by omega) (by omega) (by omega) (by omega) (by omega) (by omega) (by omega) (by omega)
                             rw [cif_t rfl] at e
                             exact e)
                          | (have hz : ld = 1 ∧ (97 ≤ g 21 0 k ∧ g 21 0 k ≤ 96 + g 8 0 5) ∧ v2 < 6 := by omega
                             obtain ⟨hz, hl, h6⟩ := hz
                             subst hz
                             rw [cif_f (by decide), fr_l ⟨hl, h6⟩]
                             have e := ih (k + 1) (v1 + 0) (v2 + 1) 1 (vI (g 21 0 k)) (vI 1) (by omega) (by omega) (by omega) (by omega) (by omega) (by omega) (by omega) (by omega)
                             rw [cif_f (by decide)] at e
                             exact e)
                          | (have hz : ld = 0 ∧ ¬ (97 ≤ g 21 0 k ∧ g 21 0 k ≤ 96 + g 8 0 5) ∧ (g 21 0 k = 62 ∨ g 21 0 k = 61) ∧ 0 < v1 ∧ v2 = 0 := by omega
                             obtain ⟨hz, hl, h6, h7, h8⟩ := hz
                             subst hz
                             subst h8
                             rw [cif_t rfl, fr_a (fun z => hl z.1) ⟨h6, rfl, h7⟩]
                             have e := ih (k + 1) (v1 + 0) (0 + 0) 1 (vI (g 21 0 k)) (vI 1) (by omega) (by omega) (by omega) (by omega) (by omega) (by omega) (by omega) (by omega)
                             rw [cif_f (by decide)] at e
                             exact e)
                      · refine o_iconst (n := 150) rfl rfl ?_
                        refine o_goto (t := 154) rfl rfl ?_
                        refine o_iadd (n := 155) rfl rfl (by omega) ?_
                        refine o_istore_2 (n := 156) rfl rfl rfl ?_
                        refine o_iinc_4 (n := 159) rfl rfl rfl (by omega) ?_
                        refine o_goto (t := 9) rfl rfl ?_
                        first
                          | (exfalso; omega; done)
                          | (have hz : ld = 0 ∧ (97 ≤ g 21 0 k ∧ g 21 0 k ≤ 96 + g 8 0 5) ∧ v1 < 6 := by omega
                             obtain ⟨hz, hl, h6⟩ := hz
                             subst hz
                             rw [cif_t rfl, fr_l ⟨hl, h6⟩]
                             have e := ih (k + 1) (v1 + 1) (v2 + 0) 0 (vI (g 21 0 k)) (vI 1) (by omega) (by omega) (by omega) (by omega) (by omega) (by omega) (by omega) (by omega)
                             rw [cif_t rfl] at e
                             exact e)
                          | (have hz : ld = 1 ∧ (97 ≤ g 21 0 k ∧ g 21 0 k ≤ 96 + g 8 0 5) ∧ v2 < 6 := by omega
                             obtain ⟨hz, hl, h6⟩ := hz
                             subst hz
                             rw [cif_f (by decide), fr_l ⟨hl, h6⟩]
                             have e := ih (k + 1) (v1 + 0) (v2 + 1) 1 (vI (g 21 0 k)) (vI 1) (by omega) (by omega) (by omega) (by omega) (by omega) (by omega) (by omega) (by omega)
                             rw [cif_f (by decide)] at e
                             exact e)
                          | (have hz : ld = 0 ∧ ¬ (97 ≤ g 21 0 k ∧ g 21 0 k ≤ 96 + g 8 0 5) ∧ (g 21 0 k = 62 ∨ g 21 0 k = 61) ∧ 0 < v1 ∧ v2 = 0 := by omega
                             obtain ⟨hz, hl, h6, h7, h8⟩ := hz
                             subst hz
                             subst h8
                             rw [cif_t rfl, fr_a (fun z => hl z.1) ⟨h6, rfl, h7⟩]
                             have e := ih (k + 1) (v1 + 0) (0 + 0) 1 (vI (g 21 0 k)) (vI 1) (by omega) (by omega) (by omega) (by omega) (by omega) (by omega) (by omega) (by omega)
                             rw [cif_f (by decide)] at e
                             exact e)
          · refine o_iload (n := 94) rfl rfl rfl ?_
            refine o_iret rfl rfl ?_
            first
              | (exfalso; omega; done)
              | (refine ⟨congrArg (fun z => some (vI z)) ?_, rfl, rfl⟩
                 by_cases hz : ld = 0
                 · rw [cif_t hz, fr_x (by omega) (by omega)]
                 · rw [cif_f hz, fr_x (by omega) (by omega)])
        · refine o_iconst (n := 51) rfl rfl ?_
          refine o_goto (t := 85) rfl rfl ?_
          refine o_istore_6 (n := 87) rfl rfl rfl ?_
          refine o_iload (n := 89) rfl rfl rfl ?_
          refine o_if_ne (n := 92) (t := 95) rfl rfl rfl (fun k89 => ?_) (fun k89 => ?_)
          · refine o_iload_n (n := 96) rfl rfl rfl ?_
            refine o_if_ne (n := 99) (t := 108) rfl rfl rfl (fun k96 => ?_) (fun k96 => ?_)
            · refine o_iconst (n := 109) rfl rfl ?_
              refine o_goto (t := 113) rfl rfl ?_
              refine o_istore_3 (n := 114) rfl rfl rfl ?_
              refine o_iload_n (n := 115) rfl rfl rfl ?_
              refine o_aload_n (n := 116) rfl rfl rfl ?_
              refine o_iload (n := 118) rfl rfl rfl ?_
              refine o_invi (n := 121) rfl rfl rfl rfl rfl rfl rfl rfl rfl rfl (c8_isSign _ hs0 hs1) ?_
              refine o_ifb_eq (n := 124) (t := 132) rfl rfl rfl (fun k121 => ?_) (fun k121 => ?_)
              · refine o_iconst (n := 133) rfl rfl ?_
                refine o_iadd (n := 134) rfl rfl (by omega) ?_
                refine o_istore_1 (n := 135) rfl rfl rfl ?_
                refine o_iload_n (n := 136) rfl rfl rfl ?_
                refine o_aload_n (n := 137) rfl rfl rfl ?_
                refine o_iload (n := 139) rfl rfl rfl ?_
                refine o_invi (n := 142) rfl rfl rfl rfl rfl rfl rfl rfl rfl rfl (c8_isSign _ hs0 hs1) ?_
                refine o_ifb_eq (n := 145) (t := 153) rfl rfl rfl (fun k142 => ?_) (fun k142 => ?_)
                · refine o_iconst (n := 154) rfl rfl ?_
                  refine o_iadd (n := 155) rfl rfl (by omega) ?_
                  refine o_istore_2 (n := 156) rfl rfl rfl ?_
                  refine o_iinc_4 (n := 159) rfl rfl rfl (by omega) ?_
                  refine o_goto (t := 9) rfl rfl ?_
                  first
                    | (exfalso; omega; done)
                    | (have hz : ld = 0 ∧ (97 ≤ g 21 0 k ∧ g 21 0 k ≤ 96 + g 8 0 5) ∧ v1 < 6 := by omega
                       obtain ⟨hz, hl, h6⟩ := hz
                       subst hz
                       rw [cif_t rfl, fr_l ⟨hl, h6⟩]
                       have e := ih (k + 1) (v1 + 1) (v2 + 0) 0 (vI (g 21 0 k)) (vI 1) (by omega) (by omega) (by omega) (by omega) (by omega) (by omega) (by omega) (by omega)
                       rw [cif_t rfl] at e
                       exact e)
                    | (have hz : ld = 1 ∧ (97 ≤ g 21 0 k ∧ g 21 0 k ≤ 96 + g 8 0 5) ∧ v2 < 6 := by omega
                       obtain ⟨hz, hl, h6⟩ := hz
                       subst hz
                       rw [cif_f (by decide), fr_l ⟨hl, h6⟩]
                       have e := ih (k + 1) (v1 + 0) (v2 + 1) 1 (vI (g 21 0 k)) (vI 1) (by omega) (by omega) (by omega) (by omega) (by omega) (by omega) (by omega) (by omega)
                       rw [cif_f (by decide)] at e
                       exact e)
                    | (have hz : ld = 0 ∧ ¬ (97 ≤ g 21 0 k ∧ g 21 0 k ≤ 96 + g 8 0 5) ∧ (g 21 0 k = 62 ∨ g 21 0 k = 61) ∧ 0 < v1 ∧ v2 = 0 := by omega
                       obtain ⟨hz, hl, h6, h7, h8⟩ := hz
                       subst hz
                       subst h8
                       rw [cif_t rfl, fr_a (fun z => hl z.1) ⟨h6, rfl, h7⟩]
                       have e := ih (k + 1) (v1 + 0) (0 + 0) 1 (vI (g 21 0 k)) (vI 1) (by omega) (by omega) (by omega) (by omega) (by omega) (by omega) (by omega) (by omega)
                       rw [cif_f (by decide)] at e
                       exact e)
                · refine o_iload_n (n := 146) rfl rfl rfl ?_
                  refine o_if_eq (n := 149) (t := 153) rfl rfl rfl (fun k146 => ?_) (fun k146 => ?_)
                  · refine o_iconst (n := 154) rfl rfl ?_
                    refine o_iadd (n := 155) rfl rfl (by omega) ?_
                    refine o_istore_2 (n := 156) rfl rfl rfl ?_
                    refine o_iinc_4 (n := 159) rfl rfl rfl (by omega) ?_
                    refine o_goto (t := 9) rfl rfl ?_
                    first
                      | (exfalso; omega; done)
                      | (have hz : ld = 0 ∧ (97 ≤ g 21 0 k ∧ g 21 0 k ≤ 96 + g 8 0 5) ∧ v1 < 6 := by omega
                         obtain ⟨hz, hl, h6⟩ := hz
                         subst hz
                         rw [cif_t rfl, fr_l ⟨hl, h6⟩]
                         have e := ih (k + 1) (v1 + 1) (v2 + 0) 0 (vI (g 21 0 k)) (vI 1) (by omega) (by omega) (by omega) (by omega) (by omega) (by omega) (by omega) (by omega)
                         rw [cif_t rfl] at e
                         exact e)
                      | (have hz : ld = 1 ∧ (97 ≤ g 21 0 k ∧ g 21 0 k ≤ 96 + g 8 0 5) ∧ v2 < 6 := by omega
                         obtain ⟨hz, hl, h6⟩ := hz
                         subst hz
                         rw [cif_f (by decide), fr_l ⟨hl, h6⟩]
                         have e := ih (k + 1) (v1 + 0) (v2 + 1) 1 (vI (g 21 0 k)) (vI 1) (by omega) (by omega) (by omega) (by omega) (by omega) (by omega) (by omega) (by omega)
                         rw [cif_f (by decide)] at e
                         exact e)
                      | (have hz : ld = 0 ∧ ¬ (97 ≤ g 21 0 k ∧ g 21 0 k ≤ 96 + g 8 0 5) ∧ (g 21 0 k = 62 ∨ g 21 0 k = 61) ∧ 0 < v1 ∧ v2 = 0 := by omega
                         obtain ⟨hz, hl, h6, h7, h8⟩ := hz
                         subst hz
                         subst h8
                         rw [cif_t rfl, fr_a (fun z => hl z.1) ⟨h6, rfl, h7⟩]
                         have e := ih (k + 1) (v1 + 0) (0 + 0) 1 (vI (g 21 0 k)) (vI 1) (by omega) (by omega) (by omega) (by omega) (by omega) (by omega) (by omega) (by omega)
                         rw [cif_f (by decide)] at e
                         exact e)
                  · refine o_iconst (n := 150) rfl rfl ?_
                    refine o_goto (t := 154) rfl rfl ?_
                    refine o_iadd (n := 155) rfl rfl (by omega) ?_
                    refine o_istore_2 (n := 156) rfl rfl rfl ?_
                    refine o_iinc_4 (n := 159) rfl rfl rfl (by omega) ?_
                    refine o_goto (t := 9) rfl rfl ?_
                    first
                      | (exfalso; omega; done)
                      | (have hz : ld = 0 ∧ (97 ≤ g 21 0 k ∧ g 21 0 k ≤ 96 + g 8 0 5) ∧ v1 < 6 := by omega
                         obtain ⟨hz, hl, h6⟩ := hz
                         subst hz
                         rw [cif_t rfl, fr_l ⟨hl, h6⟩]
                         have e := ih (k + 1) (v1 + 1) (v2 + 0) 0 (vI (g 21 0 k)) (vI 1) (by omega) (by omega) (by omega) (by omega) (by omega) (by omega) (by omega) (by omega)
                         rw [cif_t rfl] at e
                         exact e)
                      | (have hz : ld = 1 ∧ (97 ≤ g 21 0 k ∧ g 21 0 k ≤ 96 + g 8 0 5) ∧ v2 < 6 := by omega
                         obtain ⟨hz, hl, h6⟩ := hz
                         subst hz
                         rw [cif_f (by decide), fr_l ⟨hl, h6⟩]
                         have e := ih (k + 1) (v1 + 0) (v2 + 1) 1 (vI (g 21 0 k)) (vI 1) (by omega) (by omega) (by omega) (by omega) (by omega) (by omega) (by omega) (by omega)
                         rw [cif_f (by decide)] at e
                         exact e)
                      | (have hz : ld = 0 ∧ ¬ (97 ≤ g 21 0 k ∧ g 21 0 k ≤ 96 + g 8 0 5) ∧ (g 21 0 k = 62 ∨ g 21 0 k = 61) ∧ 0 < v1 ∧ v2 = 0 := by omega
                         obtain ⟨hz, hl, h6, h7, h8⟩ := hz
                         subst hz
                         subst h8
                         rw [cif_t rfl, fr_a (fun z => hl z.1) ⟨h6, rfl, h7⟩]
                         have e := ih (k + 1) (v1 + 0) (0 + 0) 1 (vI (g 21 0 k)) (vI 1) (by omega) (by omega) (by omega) (by omega) (by omega) (by omega) (by omega) (by omega)
                         rw [cif_f (by decide)] at e
                         exact e)
              · refine o_iload_n (n := 125) rfl rfl rfl ?_
                refine o_if_ne (n := 128) (t := 132) rfl rfl rfl (fun k125 => ?_) (fun k125 => ?_)
                · refine o_iconst (n := 133) rfl rfl ?_
                  refine o_iadd (n := 134) rfl rfl (by omega) ?_
                  refine o_istore_1 (n := 135) rfl rfl rfl ?_
                  refine o_iload_n (n := 136) rfl rfl rfl ?_
                  refine o_aload_n (n := 137) rfl rfl rfl ?_
                  refine o_iload (n := 139) rfl rfl rfl ?_
                  refine o_invi (n := 142) rfl rfl rfl rfl rfl rfl rfl rfl rfl rfl (c8_isSign _ hs0 hs1) ?_
                  refine o_ifb_eq (n := 145) (t := 153) rfl rfl rfl (fun k142 => ?_) (fun k142 => ?_)
                  · refine o_iconst (n := 154) rfl rfl ?_
                    refine o_iadd (n := 155) rfl rfl (by omega) ?_
                    refine o_istore_2 (n := 156) rfl rfl rfl ?_
                    refine o_iinc_4 (n := 159) rfl rfl rfl (by omega) ?_
                    refine o_goto (t := 9) rfl rfl ?_
                    first
                      | (exfalso; omega; done)
                      | (have hz : ld = 0 ∧ (97 ≤ g 21 0 k ∧ g 21 0 k ≤ 96 + g 8 0 5) ∧ v1 < 6 := by omega
                         obtain ⟨hz, hl, h6⟩ := hz
                         subst hz
                         rw [cif_t rfl, fr_l ⟨hl, h6⟩]
                         have e := ih (k + 1) (v1 + 1) (v2 + 0) 0 (vI (g 21 0 k)) (vI 1) (by omega) (by omega) (by omega) (by omega) (by omega) (by omega) (by omega) (by omega)
                         rw [cif_t rfl] at e
                         exact e)
                      | (have hz : ld = 1 ∧ (97 ≤ g 21 0 k ∧ g 21 0 k ≤ 96 + g 8 0 5) ∧ v2 < 6 := by omega
                         obtain ⟨hz, hl, h6⟩ := hz
                         subst hz
                         rw [cif_f (by decide), fr_l ⟨hl, h6⟩]
                         have e := ih (k + 1) (v1 + 0) (v2 + 1) 1 (vI (g 21 0 k)) (vI 1) (by omega) (by omega) (by omega) (by omega) (by omega) (by omega) (by omega) (by omega)
                         rw [cif_f (by decide)] at e
                         exact e)
                      | (have hz : ld = 0 ∧ ¬ (97 ≤ g 21 0 k ∧ g 21 0 k ≤ 96 + g 8 0 5) ∧ (g 21 0 k = 62 ∨ g 21 0 k = 61) ∧ 0 < v1 ∧ v2 = 0 := by omega
                         obtain ⟨hz, hl, h6, h7, h8⟩ := hz
                         subst hz
                         subst h8
                         rw [cif_t rfl, fr_a (fun z => hl z.1) ⟨h6, rfl, h7⟩]
                         have e := ih (k + 1) (v1 + 0) (0 + 0) 1 (vI (g 21 0 k)) (vI 1) (by omega) (by omega) (by omega) (by omega) (by omega) (by omega) (by omega) (by omega)
                         rw [cif_f (by decide)] at e
                         exact e)
                  · refine o_iload_n (n := 146) rfl rfl rfl ?_
                    refine o_if_eq (n := 149) (t := 153) rfl rfl rfl (fun k146 => ?_) (fun k146 => ?_)
                    · refine o_iconst (n := 154) rfl rfl ?_
                      refine o_iadd (n := 155) rfl rfl (by omega) ?_
                      refine o_istore_2 (n := 156) rfl rfl rfl ?_
                      refine o_iinc_4 (n := 159) rfl rfl rfl (by omega) ?_
                      refine o_goto (t := 9) rfl rfl ?_
                      first
                        | (exfalso; omega; done)
                        | (have hz : ld = 0 ∧ (97 ≤ g 21 0 k ∧ g 21 0 k ≤ 96 + g 8 0 5) ∧ v1 < 6 := by omega
                           obtain ⟨hz, hl, h6⟩ := hz
                           subst hz
                           rw [cif_t rfl, fr_l ⟨hl, h6⟩]
                           have e := ih (k + 1) (v1 + 1) (v2 + 0) 0 (vI (g 21 0 k)) (vI 1) (by omega) (by omega) (by omega) (by omega) (by omega) (by omega) (by omega) (by omega)
                           rw [cif_t rfl] at e
                           exact e)
                        | (have hz : ld = 1 ∧ (97 ≤ g 21 0 k ∧ g 21 0 k ≤ 96 + g 8 0 5) ∧ v2 < 6 := by omega
                           obtain ⟨hz, hl, h6⟩ := hz
                           subst hz
                           rw [cif_f (by decide), fr_l ⟨hl, h6⟩]
                           have e := ih (k + 1) (v1 + 0) (v2 + 1) 1 (vI (g 21 0 k)) (vI 1) (by omega) (by omega) (by omega) (by omega) (by omega) (by omega) (by omega) (by omega)
                           rw [cif_f (by decide)] at e
                           exact e)
                        | (have hz : ld = 0 ∧ ¬ (97 ≤ g 21 0 k ∧ g 21 0 k ≤ 96 + g 8 0 5) ∧ (g 21 0 k = 62 ∨ g 21 0 k = 61) ∧ 0 < v1 ∧ v2 = 0 := by omega
                           obtain ⟨hz, hl, h6, h7, h8⟩ := hz
                           subst hz
                           subst h8
                           rw [cif_t rfl, fr_a (fun z => hl z.1) ⟨h6, rfl, h7⟩]
                           have e := ih (k + 1) (v1 + 0) (0 + 0) 1 (vI (g 21 0 k)) (vI 1) (by omega) (by omega) (by omega) (by omega) (by omega) (by omega) (by omega) (by omega)
                           rw [cif_f (by decide)] at e
                           exact e)
                    · refine o_iconst (n := 150) rfl rfl ?_
                      refine o_goto (t := 154) rfl rfl ?_
                      refine o_iadd (n := 155) rfl rfl (by omega) ?_
                      refine o_istore_2 (n := 156) rfl rfl rfl ?_
                      refine o_iinc_4 (n := 159) rfl rfl rfl (by omega) ?_
                      refine o_goto (t := 9) rfl rfl ?_
                      first
                        | (exfalso; omega; done)
                        | (have hz : ld = 0 ∧ (97 ≤ g 21 0 k ∧ g 21 0 k ≤ 96 + g 8 0 5) ∧ v1 < 6 := by omega
                           obtain ⟨hz, hl, h6⟩ := hz
                           subst hz
                           rw [cif_t rfl, fr_l ⟨hl, h6⟩]
                           have e := ih (k + 1) (v1 + 1) (v2 + 0) 0 (vI (g 21 0 k)) (vI 1) (by omega) (by omega) (by omega) (by omega) (by omega) (by omega) (by omega) (by omega)
                           rw [cif_t rfl] at e
                           exact e)
                        | (have hz : ld = 1 ∧ (97 ≤ g 21 0 k ∧ g 21 0 k ≤ 96 + g 8 0 5) ∧ v2 < 6 := by omega
                           obtain ⟨hz, hl, h6⟩ := hz
                           subst hz
                           rw [cif_f (by decide), fr_l ⟨hl, h6⟩]
                           have e := ih (k + 1) (v1 + 0) (v2 + 1) 1 (vI (g 21 0 k)) (vI 1) (by omega) (by omega) (by omega) (by omega) (by omega) (by omega) (by omega) (by omega)
                           rw [cif_f (by decide)] at e
                           exact e)
                        | (have hz : ld = 0 ∧ ¬ (97 ≤ g 21 0 k ∧ g 21 0 k ≤ 96 + g 8 0 5) ∧ (g 21 0 k = 62 ∨ g 21 0 k = 61) ∧ 0 < v1 ∧ v2 = 0 := by omega
                           obtain ⟨hz, hl, h6, h7, h8⟩ := hz
                           subst hz
                           subst h8
                           rw [cif_t rfl, fr_a (fun z => hl z.1) ⟨h6, rfl, h7⟩]
                           have e := ih (k + 1) (v1 + 0) (0 + 0) 1 (vI (g 21 0 k)) (vI 1) (by omega) (by omega) (by omega) (by omega) (by omega) (by omega) (by omega) (by omega)
                           rw [cif_f (by decide)] at e
                           exact e)
                · refine o_iconst (n := 129) rfl rfl ?_
                  refine o_goto (t := 133) rfl rfl ?_
                  refine o_iadd (n := 134) rfl rfl (by omega) ?_
                  refine o_istore_1 (n := 135) rfl rfl rfl ?_
                  refine o_iload_n (n := 136) rfl rfl rfl ?_
                  refine o_aload_n (n := 137) rfl rfl rfl ?_
                  refine o_iload (n := 139) rfl rfl rfl ?_
                  refine o_invi (n := 142) rfl rfl rfl rfl rfl rfl rfl rfl rfl rfl (c8_isSign _ hs0 hs1) ?_
                  refine o_ifb_eq (n := 145) (t := 153) rfl rfl rfl (fun k142 => ?_) (fun k142 => ?_)
                  · refine o_iconst (n := 154) rfl rfl ?_
                    refine o_iadd (n := 155) rfl rfl (by omega) ?_
                    refine o_istore_2 (n := 156) rfl rfl rfl ?_
                    refine o_iinc_4 (n := 159) rfl rfl rfl (by omega) ?_
                    refine o_goto (t := 9) rfl rfl ?_
                    first
                      | (exfalso; omega; done)
                      | (have hz : ld = 0 ∧ (97 ≤ g 21 0 k ∧ g 21 0 k ≤ 96 + g 8 0 5) ∧ v1 < 6 := by omega
                         obtain ⟨hz, hl, h6⟩ := hz
                         subst hz
                         rw [cif_t rfl, fr_l ⟨hl, h6⟩]
                         have e := ih (k + 1) (v1 + 1) (v2 + 0) 0 (vI (g 21 0 k)) (vI 1) (by omega) (by omega) (by omega) (by omega) (by omega) (by omega) (by omega) (by omega)
                         rw [cif_t rfl] at e
                         exact e)
                      | (have hz : ld = 1 ∧ (97 ≤ g 21 0 k ∧ g 21 0 k ≤ 96 + g 8 0 5) ∧ v2 < 6 := by omega
                         obtain ⟨hz, hl, h6⟩ := hz
                         subst hz
                         rw [cif_f (by decide), fr_l ⟨hl, h6⟩]
                         have e := ih (k + 1) (v1 + 0) (v2 + 1) 1 (vI (g 21 0 k)) (vI 1) (by omega) (by omega) (by omega) (by omega) (by omega) (by omega) (by omega) (by omega)
                         rw [cif_f (by decide)] at e
                         exact e)
                      | (have hz : ld = 0 ∧ ¬ (97 ≤ g 21 0 k ∧ g 21 0 k ≤ 96 + g 8 0 5) ∧ (g 21 0 k = 62 ∨ g 21 0 k = 61) ∧ 0 < v1 ∧ v2 = 0 := by omega
                         obtain ⟨hz, hl, h6, h7, h8⟩ := hz
                         subst hz
                         subst h8
                         rw [cif_t rfl, fr_a (fun z => hl z.1) ⟨h6, rfl, h7⟩]
                         have e := ih (k + 1) (v1 + 0) (0 + 0) 1 (vI (g 21 0 k)) (vI 1) (by omega) (by omega) (by omega) (by omega) (by omega) (by omega) (by omega) (by omega)
                         rw [cif_f (by decide)] at e
                         exact e)
                  · refine o_iload_n (n := 146) rfl rfl rfl ?_
                    refine o_if_eq (n := 149) (t := 153) rfl rfl rfl (fun k146 => ?_) (fun k146 => ?_)
                    · refine o_iconst (n := 154) rfl rfl ?_
                      refine o_iadd (n := 155) rfl rfl (by omega) ?_
                      refine o_istore_2 (n := 156) rfl rfl rfl ?_
                      refine o_iinc_4 (n := 159) rfl rfl rfl (by omega) ?_
                      refine o_goto (t := 9) rfl rfl ?_
                      first
                        | (exfalso; omega; done)
                        | (have hz : ld = 0 ∧ (97 ≤ g 21 0 k ∧ g 21 0 k ≤ 96 + g 8 0 5) ∧ v1 < 6 := by omega
                           obtain ⟨hz, hl, h6⟩ := hz
                           subst hz
                           rw [cif_t rfl, fr_l ⟨hl, h6⟩]
                           have e := ih (k + 1) (v1 + 1) (v2 + 0) 0 (vI (g 21 0 k)) (vI 1) (by omega) (by omega) (by omega) (by omega) (by omega) (by omega) (by omega) (by omega)
                           rw [cif_t rfl] at e
                           exact e)
                        | (have hz : ld = 1 ∧ (97 ≤ g 21 0 k ∧ g 21 0 k ≤ 96 + g 8 0 5) ∧ v2 < 6 := by omega
                           obtain ⟨hz, hl, h6⟩ := hz
                           subst hz
                           rw [cif_f (by decide), fr_l ⟨hl, h6⟩]
                           have e := ih (k + 1) (v1 + 0) (v2 + 1) 1 (vI (g 21 0 k)) (vI 1) (by omega) (by omega) (by omega) (by omega) (by omega) (by omega) (by omega) (by omega)
                           rw [cif_f (by decide)] at e
                           exact e)
                        | (have hz : ld = 0 ∧ ¬ (97 ≤ g 21 0 k ∧ g 21 0 k ≤ 96 + g 8 0 5) ∧ (g 21 0 k = 62 ∨ g 21 0 k = 61) ∧ 0 < v1 ∧ v2 = 0 := by omega
                           obtain ⟨hz, hl, h6, h7, h8⟩ := hz
                           subst hz
                           subst h8
                           rw [cif_t rfl, fr_a (fun z => hl z.1) ⟨h6, rfl, h7⟩]
                           have e := ih (k + 1) (v1 + 0) (0 + 0) 1 (vI (g 21 0 k)) (vI 1) (by omega) (by omega) (by omega) (by omega) (by omega) (by omega) (by omega) (by omega)
                           rw [cif_f (by decide)] at e
                           exact e)
                    · refine o_iconst (n := 150) rfl rfl ?_
                      refine o_goto (t := 154) rfl rfl ?_
                      refine o_iadd (n := 155) rfl rfl (by omega) ?_
                      refine o_istore_2 (n := 156) rfl rfl rfl ?_
                      refine o_iinc_4 (n := 159) rfl rfl rfl (by omega) ?_
                      refine o_goto (t := 9) rfl rfl ?_
                      first
                        | (exfalso; omega; done)
                        | (have hz : ld = 0 ∧ (97 ≤ g 21 0 k ∧ g 21 0 k ≤ 96 + g 8 0 5) ∧ v1 < 6 := by omega
                           obtain ⟨hz, hl, h6⟩ := hz
                           subst hz
                           rw [cif_t rfl, fr_l ⟨hl, h6⟩]
                           have e := ih (k + 1) (v1 + 1) (v2 + 0) 0 (vI (g 21 0 k)) (vI 1) (by omega) (by omega) (by omega) (by omega) (by omega) (by omega) (by omega) (by omega)
                           rw [cif_t rfl] at e
                           exact e)
                        | (have hz : ld = 1 ∧ (97 ≤ g 21 0 k ∧ g 21 0 k ≤ 96 + g 8 0 5) ∧ v2 < 6 := by omega
                           obtain ⟨hz, hl, h6⟩ := hz
                           subst hz
                           rw [cif_f (by decide), fr_l ⟨hl, h6⟩]
                           have e := ih (k + 1) (v1 + 0) (v2 + 1) 1 (vI (g 21 0 k)) (vI 1) (by omega) (by omega) (by omega) (by omega) (by omega) (by omega) (by omega) (by omega)
                           rw [cif_f (by decide)] at e
                           exact e)
                        | (have hz : ld = 0 ∧ ¬ (97 ≤ g 21 0 k ∧ g 21 0 k ≤ 96 + g 8 0 5) ∧ (g 21 0 k = 62 ∨ g 21 0 k = 61) ∧ 0 < v1 ∧ v2 = 0 := by omega
                           obtain ⟨hz, hl, h6, h7, h8⟩ := hz
                           subst hz
                           subst h8
                           rw [cif_t rfl, fr_a (fun z => hl z.1) ⟨h6, rfl, h7⟩]
                           have e := ih (k + 1) (v1 + 0) (0 + 0) 1 (vI (g 21 0 k)) (vI 1) (by omega) (by omega) (by omega) (by omega) (by omega) (by omega) (by omega) (by omega)
                           rw [cif_f (by decide)] at e
                           exact e)
            · refine o_aload_n (n := 100) rfl rfl rfl ?_
              refine o_iload (n := 102) rfl rfl rfl ?_
              refine o_invi (n := 105) rfl rfl rfl rfl rfl rfl rfl rfl rfl rfl (c8_isSign _ hs0 hs1) ?_
              refine o_ifb_ne (n := 108) (t := 112) rfl rfl rfl (fun k105 => ?_) (fun k105 => ?_)
              · refine o_iconst (n := 113) rfl rfl ?_
                refine o_istore_3 (n := 114) rfl rfl rfl ?_
                refine o_iload_n (n := 115) rfl rfl rfl ?_
                refine o_aload_n (n := 116) rfl rfl rfl ?_
                refine o_iload (n := 118) rfl rfl rfl ?_
                refine o_invi (n := 121) rfl rfl rfl rfl rfl rfl rfl rfl rfl rfl (c8_isSign _ hs0 hs1) ?_
                refine o_ifb_eq (n := 124) (t := 132) rfl rfl rfl (fun k121 => ?_) (fun k121 => ?_)
                · refine o_iconst (n := 133) rfl rfl ?_
                  refine o_iadd (n := 134) rfl rfl (by omega) ?_
                  refine o_istore_1 (n := 135) rfl rfl rfl ?_
                  refine o_iload_n (n := 136) rfl rfl rfl ?_
                  refine o_aload_n (n := 137) rfl rfl rfl ?_
                  refine o_iload (n := 139) rfl rfl rfl ?_
                  refine o_invi (n := 142) rfl rfl rfl rfl rfl rfl rfl rfl rfl rfl (c8_isSign _ hs0 hs1) ?_
                  refine o_ifb_eq (n := 145) (t := 153) rfl rfl rfl (fun k142 => ?_) (fun k142 => ?_)
                  · refine o_iconst (n := 154) rfl rfl ?_
                    refine o_iadd (n := 155) rfl rfl (by omega) ?_
                    refine o_istore_2 (n := 156) rfl rfl rfl ?_
                    refine o_iinc_4 (n := 159) rfl rfl rfl (by omega) ?_
                    refine o_goto (t := 9) rfl rfl ?_
                    first
                      | (exfalso; omega; done)
                      | (have hz : ld = 0 ∧ (97 ≤ g 21 0 k ∧ g 21 0 k ≤ 96 + g 8 0 5) ∧ v1 < 6 := by omega
                         obtain ⟨hz, hl, h6⟩ := hz
                         subst hz
                         rw [cif_t rfl, fr_l ⟨hl, h6⟩]
                         have e := ih (k + 1) (v1 + 1) (v2 + 0) 0 (vI (g 21 0 k)) (vI 1) (by omega) (by omega) (by omega) (by omega) (by omega) (by omega) (by omega) (by omega)
                         rw [cif_t rfl] at e
                         exact e)
                      | (have hz : ld = 1 ∧ (97 ≤ g 21 0 k ∧ g 21 0 k ≤ 96 + g 8 0 5) ∧ v2 < 6 := by omega
                         obtain ⟨hz, hl, h6⟩ := hz
                         subst hz
                         rw [cif_f (by decide), fr_l ⟨hl, h6⟩]
                         have e := ih (k + 1) (v1 + 0) (v2 + 1) 1 (vI (g 21 0 k)) (vI 1) (by omega) (by omega) (by omega) (by omega) (by omega) (by omega) (by omega) (by omega)
                         rw [cif_f (by decide)] at e
                         exact e)
                      | (have hz : ld = 0 ∧ ¬ (97 ≤ g 21 0 k ∧ g 21 0 k ≤ 96 + g 8 0 5) ∧ (g 21 0 k = 62 ∨ g 21 0 k = 61) ∧ 0 < v1 ∧ v2 = 0 := by omega
                         obtain ⟨hz, hl, h6, h7, h8⟩ := hz
                         subst hz
                         subst h8
                         rw [cif_t rfl, fr_a (fun z => hl z.1) ⟨h6, rfl, h7⟩]
                         have e := ih (k + 1) (v1 + 0) (0 + 0) 1 (vI (g 21 0 k)) (vI 1) (by omega) (by omega) (by omega) (by omega) (by omega) (by omega) (by omega) (by omega)
                         rw [cif_f (by decide)] at e
                         exact e)
                  · refine o_iload_n (n := 146) rfl rfl rfl ?_
                    refine o_if_eq (n := 149) (t := 153) rfl rfl rfl (fun k146 => ?_) (fun k146 => ?_)
                    · refine o_iconst (n := 154) rfl rfl ?_
                      refine o_iadd (n := 155) rfl rfl (by omega) ?_
                      refine o_istore_2 (n := 156) rfl rfl rfl ?_
                      refine o_iinc_4 (n := 159) rfl rfl rfl (by omega) ?_
                      refine o_goto (t := 9) rfl rfl ?_
                      first
                        | (exfalso; omega; done)
                        | (have hz : ld = 0 ∧ (97 ≤ g 21 0 k ∧ g 21 0 k ≤ 96 + g 8 0 5) ∧ v1 < 6 := by omega
                           obtain ⟨hz, hl, h6⟩ := hz
                           subst hz
                           rw [cif_t rfl, fr_l ⟨hl, h6⟩]
                           have e := ih (k + 1) (v1 + 1) (v2 + 0) 0 (vI (g 21 0 k)) (vI 1) (by omega) (by omega) (by omega) (by omega) (by omega) (by omega) (by omega) (by omega)
                           rw [cif_t rfl] at e
                           exact e)
                        | (have hz : ld = 1 ∧ (97 ≤ g 21 0 k ∧ g 21 0 k ≤ 96 + g 8 0 5) ∧ v2 < 6 := by omega
                           obtain ⟨hz, hl, h6⟩ := hz
                           subst hz
                           rw [cif_f (by decide), fr_l ⟨hl, h6⟩]
                           have e := ih (k + 1) (v1 + 0) (v2 + 1) 1 (vI (g 21 0 k)) (vI 1) (by omega) (by omega) (by omega) (by omega) (by omega) (by omega) (by omega) (by omega)
                           rw [cif_f (by decide)] at e
                           exact e)
                        | (have hz : ld = 0 ∧ ¬ (97 ≤ g 21 0 k ∧ g 21 0 k ≤ 96 + g 8 0 5) ∧ (g 21 0 k = 62 ∨ g 21 0 k = 61) ∧ 0 < v1 ∧ v2 = 0 := by omega
                           obtain ⟨hz, hl, h6, h7, h8⟩ := hz
                           subst hz
                           subst h8
                           rw [cif_t rfl, fr_a (fun z => hl z.1) ⟨h6, rfl, h7⟩]
                           have e := ih (k + 1) (v1 + 0) (0 + 0) 1 (vI (g 21 0 k)) (vI 1) (by omega) (by omega) (by omega) (by omega) (by omega) (by omega) (by omega) (by omega)
                           rw [cif_f (by decide)] at e
                           exact e)
                    · refine o_iconst (n := 150) rfl rfl ?_
                      refine o_goto (t := 154) rfl rfl ?_
                      refine o_iadd (n := 155) rfl rfl (by omega) ?_
                      refine o_istore_2 (n := 156) rfl rfl rfl ?_
                      refine o_iinc_4 (n := 159) rfl rfl rfl (by omega) ?_
                      refine o_goto (t := 9) rfl rfl ?_
                      first
                        | (exfalso; omega; done)
                        | (have hz : ld = 0 ∧ (97 ≤ g 21 0 k ∧ g 21 0 k ≤ 96 + g 8 0 5) ∧ v1 < 6 := by omega
                           obtain ⟨hz, hl, h6⟩ := hz
                           subst hz
                           rw [cif_t rfl, fr_l ⟨hl, h6⟩]
                           have e := ih (k + 1) (v1 + 1) (v2 + 0) 0 (vI (g 21 0 k)) (vI 1) (by omega) (by omega) (by omega) (by omega) (by omega) (by omega) (by omega) (by omega)
                           rw [cif_t rfl] at e
                           exact e)
                        | (have hz : ld = 1 ∧ (97 ≤ g 21 0 k ∧ g 21 0 k ≤ 96 + g 8 0 5) ∧ v2 < 6 := by omega
                           obtain ⟨hz, hl, h6⟩ := hz
                           subst hz
                           rw [cif_f (by decide), fr_l ⟨hl, h6⟩]
                           have e := ih (k + 1) (v1 + 0) (v2 + 1) 1 (vI (g 21 0 k)) (vI 1) (by omega) (by omega) (by omega) (by omega) (by omega) (by omega) (by omega) (by omega)
                           rw [cif_f (by decide)] at e
                           exact e)
                        | (have hz : ld = 0 ∧ ¬ (97 ≤ g 21 0 k ∧ g 21 0 k ≤ 96 + g 8 0 5) ∧ (g 21 0 k = 62 ∨ g 21 0 k = 61) ∧ 0 < v1 ∧ v2 = 0 := by omega
                           obtain ⟨hz, hl, h6, h7, h8⟩ := hz
                           subst hz
                           subst h8
                           rw [cif_t rfl, fr_a (fun z => hl z.1) ⟨h6, rfl, h7⟩]
                           have e := ih (k + 1) (v1 + 0) (0 + 0) 1 (vI (g 21 0 k)) (vI 1) (by omega) (by omega) (by omega) (by omega) (by omega) (by omega) (by omega) (by omega)
                           rw [cif_f (by decide)] at e
                           exact e)
                · refine o_iload_n (n := 125) rfl rfl rfl ?_
                  refine o_if_ne (n := 128) (t := 132) rfl rfl rfl (fun k125 => ?_) (fun k125 => ?_)
                  · refine o_iconst (n := 133) rfl rfl ?_
                    refine o_iadd (n := 134) rfl rfl (by omega) ?_
                    refine o_istore_1 (n := 135) rfl rfl rfl ?_
                    refine o_iload_n (n := 136) rfl rfl rfl ?_
                    refine o_aload_n (n := 137) rfl rfl rfl ?_
                    refine o_iload (n := 139) rfl rfl rfl ?_
                    refine o_invi (n := 142) rfl rfl rfl rfl rfl rfl rfl rfl rfl rfl (c8_isSign _ hs0 hs1) ?_
                    refine o_ifb_eq (n := 145) (t := 153) rfl rfl rfl (fun k142 => ?_) (fun k142 => ?_)
                    · refine o_iconst (n := 154) rfl rfl ?_
                      refine o_iadd (n := 155) rfl rfl (by omega) ?_
                      refine o_istore_2 (n := 156) rfl rfl rfl ?_
                      refine o_iinc_4 (n := 159) rfl rfl rfl (by omega) ?_
                      refine o_goto (t := 9) rfl rfl ?_
                      first
                        | (exfalso; omega; done)
                        | (have hz : ld = 0 ∧ (97 ≤ g 21 0 k ∧ g 21 0 k ≤ 96 + g 8 0 5) ∧ v1 < 6 := by omega
                           obtain ⟨hz, hl, h6⟩ := hz
                           subst hz
                           rw [cif_t rfl, fr_l ⟨hl, h6⟩]
                           have e := ih (k + 1) (v1 + 1) (v2 + 0) 0 (vI (g 21 0 k)) (vI 1) (by omega) (by omega) (by omega) (by omega) (by omega) (by omega) (by omega) (by omega)
                           rw [cif_t rfl] at e
                           exact e)
                        | (have hz : ld = 1 ∧ (97 ≤ g 21 0 k ∧ g 21 0 k ≤ 96 + g 8 0 5) ∧ v2 < 6 := by omega
                           obtain ⟨hz, hl, h6⟩ := hz
                           subst hz
                           rw [cif_f (by decide), fr_l ⟨hl, h6⟩]
                           have e := ih (k + 1) (v1 + 0) (v2 + 1) 1 (vI (g 21 0 k)) (vI 1) (by omega) (by omega) (by omega) (by omega) (by omega) (by omega) (by omega) (by omega)
                           rw [cif_f (by decide)] at e
                           exact e)
                        | (have hz : ld = 0 ∧ ¬ (97 ≤ g 21 0 k ∧ g 21 0 k ≤ 96 + g 8 0 5) ∧ (g 21 0 k = 62 ∨ g 21 0 k = 61) ∧ 0 < v1 ∧ v2 = 0 := by omega
                           obtain ⟨hz, hl, h6, h7, h8⟩ := hz
                           subst hz
                           subst h8
                           rw [cif_t rfl, fr_a (fun z => hl z.1) ⟨h6, rfl, h7⟩]
                           have e := ih (k + 1) (v1 + 0) (0 + 0) 1 (vI (g 21 0 k)) (vI 1) (by omega) (by omega) (by omega) (by omega) (by omega) (by omega) (by omega) (by omega)
                           rw [cif_f (by decide)] at e
                           exact e)
                    · refine o_iload_n (n := 146) rfl rfl rfl ?_
                      refine o_if_eq (n := 149) (t := 153) rfl rfl rfl (fun k146 => ?_) (fun k146 => ?_)
                      · refine o_iconst (n := 154) rfl rfl ?_
                        refine o_iadd (n := 155) rfl rfl (by omega) ?_
                        refine o_istore_2 (n := 156) rfl rfl rfl ?_
                        refine o_iinc_4 (n := 159) rfl rfl rfl (by omega) ?_
                        refine o_goto (t := 9) rfl rfl ?_
                        first
                          | (exfalso; omega; done)
                          | (have hz : ld = 0 ∧ (97 ≤ g 21 0 k ∧ g 21 0 k ≤ 96 + g 8 0 5) ∧ v1 < 6 := by omega
                             obtain ⟨hz, hl, h6⟩ := hz
                             subst hz
                             rw [cif_t rfl, fr_l ⟨hl, h6⟩]
                             have e := ih (k + 1) (v1 + 1) (v2 + 0) 0 (vI (g 21 0 k)) (vI 1) (by omega) (by omega) (by omega) (by omega) (by omega) (by omega) (by omega) (by omega)
                             rw [cif_t rfl] at e
                             exact e)
                          | (have hz : ld = 1 ∧ (97 ≤ g 21 0 k ∧ g 21 0 k ≤ 96 + g 8 0 5) ∧ v2 < 6 := by omega
                             obtain ⟨hz, hl, h6⟩ := hz
                             subst hz
                             rw [cif_f (by decide), fr_l ⟨hl, h6⟩]
                             have e := ih (k + 1) (v1 + 0) (v2 + 1) 1 (vI (g 21 0 k)) (vI 1) (by omega) (by omega) (by omega) (by omega) (by omega) (by omega) (by omega) (by omega)
                             rw [cif_f (by decide)] at e
                             exact e)
                          | (have hz : ld = 0 ∧ ¬ (97 ≤ g 21 0 k ∧ g 21 0 k ≤ 96 + g 8 0 5) ∧ (g 21 0 k = 62 ∨ g 21 0 k = 61) ∧ 0 < v1 ∧ v2 = 0 := by omega
                             obtain ⟨hz, hl, h6, h7, h8⟩ := hz
                             subst hz
                             subst h8
                             rw [cif_t rfl, fr_a (fun z => hl z.1) ⟨h6, rfl, h7⟩]
                             have e := ih (k + 1) (v1 + 0) (0 + 0) 1 (vI (g 21 0 k)) (vI 1) (by omega) (by omega) (by omega) (by omega) (by omega) (by omega) (by omega) (by omega)
                             rw [cif_f (by decide)] at e
                             exact e)
                      · refine o_iconst (n := 150) rfl rfl ?_
                        refine o_goto (t := 154) rfl rfl ?_
                        refine o_iadd (n := 155) rfl rfl (by omega) ?_
                        refine o_istore_2 (n := 156) rfl rfl rfl ?_
                        refine o_iinc_4 (n := 159) rfl rfl rfl (by omega) ?_
                        refine o_goto (t := 9) rfl rfl ?_
                        first
                          | (exfalso; omega; done)
                          | (have hz : ld = 0 ∧ (97 ≤ g 21 0 k ∧ g 21 0 k ≤ 96 + g 8 0 5) ∧ v1 < 6 := by omega
                             obtain ⟨hz, hl, h6⟩ := hz
                             subst hz
                             rw [cif_t rfl, fr_l ⟨hl, h6⟩]
                             have e := ih (k + 1) (v1 + 1) (v2 + 0) 0 (vI (g 21 0 k)) (vI 1) (by omega) (by omega) (by omega) (by omega) (by omega) (by omega) (by omega) (by omega)
                             rw [cif_t rfl] at e
                             exact e)
                          | (have hz : ld = 1 ∧ (97 ≤ g 21 0 k ∧ g 21 0 k ≤ 96 + g 8 0 5) ∧ v2 < 6 := by omega
                             obtain ⟨hz, hl, h6⟩ := hz
                             subst hz
                             rw [cif_f (by decide), fr_l ⟨hl, h6⟩]
                             have e := ih (k + 1) (v1 + 0) (v2 + 1) 1 (vI (g 21 0 k)) (vI 1) (by omega) (by omega) (by omega) (by omega) (by omega) (by omega) (by omega) (by omega)
                             rw [cif_f (by decide)] at e
                             exact e)
                          | (have hz : ld = 0 ∧ ¬ (97 ≤ g 21 0 k ∧ g 21 0 k ≤ 96 + g 8 0 5) ∧ (g 21 0 k = 62 ∨ g 21 0 k = 61) ∧ 0 < v1 ∧ v2 = 0 := by omega
                             obtain ⟨hz, hl, h6, h7, h8⟩ := hz
                             subst hz
                             subst h8
                             rw [cif_t rfl, fr_a (fun z => hl z.1) ⟨h6, rfl, h7⟩]
                             have e := ih (k + 1) (v1 + 0) (0 + 0) 1 (vI (g 21 0 k)) (vI 1) (by omega) (by omega) (by omega) (by omega) (by omega) (by omega) (by omega) (by omega)
                             rw [cif_f (by decide)] at e
                             exact e)
                  · refine o_iconst (n := 129) rfl rfl ?_
                    refine o_goto (t := 133) rfl rfl ?_
                    refine o_iadd (n := 134) rfl rfl (by omega) ?_
                    refine o_istore_1 (n := 135) rfl rfl rfl ?_
                    refine o_iload_n (n := 136) rfl rfl rfl ?_
                    refine o_aload_n (n := 137) rfl rfl rfl ?_
                    refine o_iload (n := 139) rfl rfl rfl ?_
                    refine o_invi (n := 142) rfl rfl rfl rfl rfl rfl rfl rfl rfl rfl (c8_isSign _ hs0 hs1) ?_
                    refine o_ifb_eq (n := 145) (t := 153) rfl rfl rfl (fun k142 => ?_) (fun k142 => ?_)
                    · refine o_iconst (n := 154) rfl rfl ?_
                      refine o_iadd (n := 155) rfl rfl (by omega) ?_
                      refine o_istore_2 (n := 156) rfl rfl rfl ?_
                      refine o_iinc_4 (n := 159) rfl rfl rfl (by omega) ?_
                      refine o_goto (t := 9) rfl rfl ?_
                      first
                        | (exfalso; omega; done)
                        | (have hz : ld = 0 ∧ (97 ≤ g 21 0 k ∧ g 21 0 k ≤ 96 + g 8 0 5) ∧ v1 < 6 := by omega
                           obtain ⟨hz, hl, h6⟩ := hz
                           subst hz
                           rw [cif_t rfl, fr_l ⟨hl, h6⟩]
                           have e := ih (k + 1) (v1 + 1) (v2 + 0) 0 (vI (g 21 0 k)) (vI 1) (by omega) (by omega) (by omega) (by omega) (by omega) (by omega) (by omega) (by omega)
                           rw [cif_t rfl] at e
                           exact e)
                        | (have hz : ld = 1 ∧ (97 ≤ g 21 0 k ∧ g 21 0 k ≤ 96 + g 8 0 5) ∧ v2 < 6 := by omega
                           obtain ⟨hz, hl, h6⟩ := hz
                           subst hz
                           rw [cif_f (by decide), fr_l ⟨hl, h6⟩]
                           have e := ih (k + 1) (v1 + 0) (v2 + 1) 1 (vI (g 21 0 k)) (vI 1) (by omega) (by omega) (by omega) (by omega) (by omega) (by omega) (by omega) (by omega)
                           rw [cif_f (by decide)] at e
                           exact e)
                        | (have hz : ld = 0 ∧ ¬ (97 ≤ g 21 0 k ∧ g 21 0 k ≤ 96 + g 8 0 5) ∧ (g 21 0 k = 62 ∨ g 21 0 k = 61) ∧ 0 < v1 ∧ v2 = 0 := by omega
                           obtain ⟨hz, hl, h6, h7, h8⟩ := hz
                           subst hz
                           subst h8
                           rw [cif_t rfl, fr_a (fun z => hl z.1) ⟨h6, rfl, h7⟩]
                           have e := ih (k + 1) (v1 + 0) (0 + 0) 1 (vI (g 21 0 k)) (vI 1) (by omega) (by omega) (by omega) (by omega) (by omega) (by omega) (by omega) (by omega)
                           rw [cif_f (by decide)] at e
                           exact e)
                    · refine o_iload_n (n := 146) rfl rfl rfl ?_
                      refine o_if_eq (n := 149) (t := 153) rfl rfl rfl (fun k146 => ?_) (fun k146 => ?_)
                      · refine o_iconst (n := 154) rfl rfl ?_
                        refine o_iadd (n := 155) rfl rfl (by omega) ?_
                        refine o_istore_2 (n := 156) rfl rfl rfl ?_
                        refine o_iinc_4 (n := 159) rfl rfl rfl (by omega) ?_
                        refine o_goto (t := 9) rfl rfl ?_
                        first
                          | (exfalso; omega; done)
                          | (have hz : ld = 0 ∧ (97 ≤ g 21 0 k ∧ g 21 0 k ≤ 96 + g 8 0 5) ∧ v1 < 6 := by omega
                             obtain ⟨hz, hl, h6⟩ := hz
                             subst hz
                             rw [cif_t rfl, fr_l ⟨hl, h6⟩]
                             have e := ih (k + 1) (v1 + 1) (v2 + 0) 0 (vI (g 21 0 k)) (vI 1) (by omega) (by omega) (by omega) (by omega) (by omega) (by omega) (by omega) (by omega)
                             rw [cif_t rfl] at e
                             exact e)
                          | (have hz : ld = 1 ∧ (97 ≤ g 21 0 k ∧ g 21 0 k ≤ 96 + g 8 0 5) ∧ v2 < 6 := by omega
                             obtain ⟨hz, hl, h6⟩ := hz
                             subst hz
                             rw [cif_f (by decide), fr_l ⟨hl, h6⟩]
                             have e := ih (k + 1) (v1 + 0) (v2 + 1) 1 (vI (g 21 0 k)) (vI 1) (by omega) (by omega) (by omega) (by omega) (by omega) (by omega) (by omega) (by omega)
                             rw [cif_f (by decide)] at e
                             exact e)
                          | (have hz : ld = 0 ∧ ¬ (97 ≤ g 21 0 k ∧ g 21 0 k ≤ 96 + g 8 0 5) ∧ (g 21 0 k = 62 ∨ g 21 0 k = 61) ∧ 0 < v1 ∧ v2 = 0 := by omega
                             obtain ⟨hz, hl, h6, h7, h8⟩ := hz
                             subst hz
                             subst h8
                             rw [cif_t rfl, fr_a (fun z => hl z.1) ⟨h6, rfl, h7⟩]
                             have e := ih (k + 1) (v1 + 0) (0 + 0) 1 (vI (g 21 0 k)) (vI 1) (by omega) (by omega) (by omega) (by omega) (by omega) (by omega) (by omega) (by omega)
                             rw [cif_f (by decide)] at e
                             exact e)
                      · refine o_iconst (n := 150) rfl rfl ?_
                        refine o_goto (t := 154) rfl rfl ?_
                        refine o_iadd (n := 155) rfl rfl (by omega) ?_
                        refine o_istore_2 (n := 156) rfl rfl rfl ?_
                        refine o_iinc_4 (n := 159) rfl rfl rfl (by omega) ?_
                        refine o_goto (t := 9) rfl rfl ?_
                        first
                          | (exfalso; omega; done)
                          | (have hz : ld = 0 ∧ (97 ≤ g 21 0 k ∧ g 21 0 k ≤ 96 + g 8 0 5) ∧ v1 < 6 := by omega
                             obtain ⟨hz, hl, h6⟩ := hz
                             subst hz
                             rw [cif_t rfl, fr_l ⟨hl, h6⟩]
                             have e := ih (k + 1) (v1 + 1) (v2 + 0) 0 (vI (g 21 0 k)) (vI 1) (by omega) (by omega) (by omega) (by omega) (by omega) (by omega) (by omega) (by omega)
                             rw [cif_t rfl] at e
                             exact e)
                          | (have hz : ld = 1 ∧ (97 ≤ g 21 0 k ∧ g 21 0 k ≤ 96 + g 8 0 5) ∧ v2 < 6 := by omega
                             obtain ⟨hz, hl, h6⟩ := hz
                             subst hz
                             rw [cif_f (by decide), fr_l ⟨hl, h6⟩]
                             have e := ih (k + 1) (v1 + 0) (v2 + 1) 1 (vI (g 21 0 k)) (vI 1) (by omega) (by omega) (by omega) (by omega) (by omega) (by omega) (by omega) (by omega)
                             rw [cif_f (by decide)] at e
                             exact e)
                          | (have hz : ld = 0 ∧ ¬ (97 ≤ g 21 0 k ∧ g 21 0 k ≤ 96 + g 8 0 5) ∧ (g 21 0 k = 62 ∨ g 21 0 k = 61) ∧ 0 < v1 ∧ v2 = 0 := by omega
                             obtain ⟨hz, hl, h6, h7, h8⟩ := hz
                             subst hz
                             subst h8
                             rw [cif_t rfl, fr_a (fun z => hl z.1) ⟨h6, rfl, h7⟩]
                             have e := ih (k + 1) (v1 + 0) (0 + 0) 1 (vI (g 21 0 k)) (vI 1) (by omega) (by omega) (by omega) (by omega) (by omega) (by omega) (by omega) (by omega)
                             rw [cif_f (by decide)] at e
                             exact e)
              · refine o_iconst (n := 109) rfl rfl ?_
                refine o_goto (t := 113) rfl rfl ?_
                refine o_istore_3 (n := 114) rfl rfl rfl ?_
                refine o_iload_n (n := 115) rfl rfl rfl ?_
                refine o_aload_n (n := 116) rfl rfl rfl ?_
                refine o_iload (n := 118) rfl rfl rfl ?_
                refine o_invi (n := 121) rfl rfl rfl rfl rfl rfl rfl rfl rfl rfl (c8_isSign _ hs0 hs1) ?_
                refine o_ifb_eq (n := 124) (t := 132) rfl rfl rfl (fun k121 => ?_) (fun k121 => ?_)
                · refine o_iconst (n := 133) rfl rfl ?_
                  refine o_iadd (n := 134) rfl rfl (by omega) ?_
                  refine o_istore_1 (n := 135) rfl rfl rfl ?_
                  refine o_iload_n (n := 136) rfl rfl rfl ?_
                  refine o_aload_n (n := 137) rfl rfl rfl ?_
                  refine o_iload (n := 139) rfl rfl rfl ?_
                  refine o_invi (n := 142) rfl rfl rfl rfl rfl rfl rfl rfl rfl rfl (c8_isSign _ hs0 hs1) ?_
                  refine o_ifb_eq (n := 145) (t := 153) rfl rfl rfl (fun k142 => ?_) (fun k142 => ?_)
                  · refine o_iconst (n := 154) rfl rfl ?_
                    refine o_iadd (n := 155) rfl rfl (by omega) ?_
                    refine o_istore_2 (n := 156) rfl rfl rfl ?_
                    refine o_iinc_4 (n := 159) rfl rfl rfl (by omega) ?_
                    refine o_goto (t := 9) rfl rfl ?_
                    first
                      | (exfalso; omega; done)
                      | (have hz : ld = 0 ∧ (97 ≤ g 21 0 k ∧ g 21 0 k ≤ 96 + g 8 0 5) ∧ v1 < 6 := by omega
                         obtain ⟨hz, hl, h6⟩ := hz
                         subst hz
                         rw [cif_t rfl, fr_l ⟨hl, h6⟩]
                         have e := ih (k + 1) (v1 + 1) (v2 + 0) 0 (vI (g 21 0 k)) (vI 1) (by omega) (by omega) (by omega) (by omega) (by omega) (by omega) (by omega) (by omega)
                         rw [cif_t rfl] at e
                         exact e)
                      | (have hz : ld = 1 ∧ (97 ≤ g 21 0 k ∧ g 21 0 k ≤ 96 + g 8 0 5) ∧ v2 < 6 := by omega
                         obtain ⟨hz, hl, h6⟩ := hz
                         subst hz
                         rw [cif_f (by decide), fr_l ⟨hl, h6⟩]
                         have e := ih (k + 1) (v1 + 0) (v2 + 1) 1 (vI (g 21 0 k)) (vI 1) (by omega) (by omega) (by omega) (by omega) (by omega) (by omega) (by omega) (by omega)
                         rw [cif_f (by decide)] at e
                         exact e)
                      | (have hz : ld = 0 ∧ ¬ (97 ≤ g 21 0 k ∧ g 21 0 k ≤ 96 + g 8 0 5) ∧ (g 21 0 k = 62 ∨ g 21 0 k = 61) ∧ 0 < v1 ∧ v2 = 0 := by omega
                         obtain ⟨hz, hl, h6, h7, h8⟩ := hz
                         subst hz
                         subst h8
                         rw [cif_t rfl, fr_a (fun z => hl z.1) ⟨h6, rfl, h7⟩]
                         have e := ih (k + 1) (v1 + 0) (0 + 0) 1 (vI (g 21 0 k)) (vI 1) (by omega) (by omega) (by omega) (by omega) (by omega) (by omega) (by omega) (by omega)
                         rw [cif_f (by decide)] at e
                         exact e)
                  · refine o_iload_n (n := 146) rfl rfl rfl ?_
                    refine o_if_eq (n := 149) (t := 153) rfl rfl rfl (fun k146 => ?_) (fun k146 => ?_)
                    · refine o_iconst (n := 154) rfl rfl ?_
                      refine o_iadd (n := 155) rfl rfl (by omega) ?_
                      refine o_istore_2 (n := 156) rfl rfl rfl ?_
                      refine o_iinc_4 (n := 159) rfl rfl rfl (by omega) ?_
                      refine o_goto (t := 9) rfl rfl ?_
                      first
                        | (exfalso; omega; done)
                        | (have hz : ld = 0 ∧ (97 ≤ g 21 0 k ∧ g 21 0 k ≤ 96 + g 8 0 5) ∧ v1 < 6 := by omega
                           obtain ⟨hz, hl, h6⟩ := hz
                           subst hz
                           rw [cif_t rfl, fr_l ⟨hl, h6⟩]
                           have e := ih (k + 1) (v1 + 1) (v2 + 0) 0 (vI (g 21 0 k)) (vI 1) (by omega) (by omega) (by omega) (by omega) (by omega) (by omega) (by omega) (by omega)
                           rw [cif_t rfl] at e
                           exact e)
                        | (have hz : ld = 1 ∧ (97 ≤ g 21 0 k ∧ g 21 0 k ≤ 96 + g 8 0 5) ∧ v2 < 6 := by omega
                           obtain ⟨hz, hl, h6⟩ := hz
                           subst hz
                           rw [cif_f (by decide), fr_l ⟨hl, h6⟩]
                           have e := ih (k + 1) (v1 + 0) (v2 + 1) 1 (vI (g 21 0 k)) (vI 1) (by omega) (by omega) (by omega) (by omega) (by omega) (by omega) (by omega) (by omega)
                           rw [cif_f (by decide)] at e
                           exact e)
                        | (have hz : ld = 0 ∧ ¬ (97 ≤ g 21 0 k ∧ g 21 0 k ≤ 96 + g 8 0 5) ∧ (g 21 0 k = 62 ∨ g 21 0 k = 61) ∧ 0 < v1 ∧ v2 = 0 := by omega
                           obtain ⟨hz, hl, h6, h7, h8⟩ := hz
                           subst hz
                           subst h8
                           rw [cif_t rfl, fr_a (fun z => hl z.1) ⟨h6, rfl, h7⟩]
                           have e := ih (k + 1) (v1 + 0) (0 + 0) 1 (vI (g 21 0 k)) (vI 1) (by omega) (by omega) (by omega) (by omega) (by omega) (by omega) (by omega) (by omega)
                           rw [cif_f (by decide)] at e
                           exact e)
                    · refine o_iconst (n := 150) rfl rfl ?_
                      refine o_goto (t := 154) rfl rfl ?_
                      refine o_iadd (n := 155) rfl rfl (by omega) ?_
                      refine o_istore_2 (n := 156) rfl rfl rfl ?_
                      refine o_iinc_4 (n := 159) rfl rfl rfl (by omega) ?_
                      refine o_goto (t := 9) rfl rfl ?_
                      first
                        | (exfalso; omega; done)
                        | (have hz : ld = 0 ∧ (97 ≤ g 21 0 k ∧ g 21 0 k ≤ 96 + g 8 0 5) ∧ v1 < 6 := by omega
                           obtain ⟨hz, hl, h6⟩ := hz
                           subst hz
                           rw [cif_t rfl, fr_l ⟨hl, h6⟩]
                           have e := ih (k + 1) (v1 + 1) (v2 + 0) 0 (vI (g 21 0 k)) (vI 1) (by omega) (by omega) (by omega) (by omega) (by omega) (by omega) (by omega) (by omega)
                           rw [cif_t rfl] at e
                           exact e)
                        | (have hz : ld = 1 ∧ (97 ≤ g 21 0 k ∧ g 21 0 k ≤ 96 + g 8 0 5) ∧ v2 < 6 := by omega
                           obtain ⟨hz, hl, h6⟩ := hz
                           subst hz
                           rw [cif_f (by decide), fr_l ⟨hl, h6⟩]
                           have e := ih (k + 1) (v1 + 0) (v2 + 1) 1 (vI (g 21 0 k)) (vI 1) (by omega) (by omega) (by omega) (by omega) (by omega) (by omega) (by omega) (by omega)
                           rw [cif_f (by decide)] at e
                           exact e)
                        | (have hz : ld = 0 ∧ ¬ (97 ≤ g 21 0 k ∧ g 21 0 k ≤ 96 + g 8 0 5) ∧ (g 21 0 k = 62 ∨ g 21 0 k = 61) ∧ 0 < v1 ∧ v2 = 0 := by omega
                           obtain ⟨hz, hl, h6, h7, h8⟩ := hz
                           subst hz
                           subst h8
                           rw [cif_t rfl, fr_a (fun z => hl z.1) ⟨h6, rfl, h7⟩]
                           have e := ih (k + 1) (v1 + 0) (0 + 0) 1 (vI (g 21 0 k)) (vI 1) (by omega) (by omega) (by omega) (by omega) (by omega) (by omega) (by omega) (by omega)
                           rw [cif_f (by decide)] at e
                           exact e)
                · refine o_iload_n (n := 125) rfl rfl rfl ?_
                  refine o_if_ne (n := 128) (t := 132) rfl rfl rfl (fun k125 => ?_) (fun k125 => ?_)
                  · refine o_iconst (n := 133) rfl rfl ?_
                    refine o_iadd (n := 134) rfl rfl (by omega) ?_
                    refine o_istore_1 (n := 135) rfl rfl rfl ?_
                    refine o_iload_n (n := 136) rfl rfl rfl ?_
                    refine o_aload_n (n := 137) rfl rfl rfl ?_
                    refine o_iload (n := 139) rfl rfl rfl ?_
                    refine o_invi (n := 142) rfl rfl rfl rfl rfl rfl rfl rfl rfl rfl (c8_isSign _ hs0 hs1) ?_
                    refine o_ifb_eq (n := 145) (t := 153) rfl rfl rfl (fun k142 => ?_) (fun k142 => ?_)
                    · refine o_iconst (n := 154) rfl rfl ?_
                      refine o_iadd (n := 155) rfl rfl (by omega) ?_
                      refine o_istore_2 (n := 156) rfl rfl rfl ?_
                      refine o_iinc_4 (n := 159) rfl rfl rfl (by omega) ?_
                      refine o_goto (t := 9) rfl rfl ?_
                      first
                        | (exfalso; omega; done)
                        | (have hz : ld = 0 ∧ (97 ≤ g 21 0 k ∧ g 21 0 k ≤ 96 + g 8 0 5) ∧ v1 < 6 := by omega
                           obtain ⟨hz, hl, h6⟩ := hz
                           subst hz
                           rw [cif_t rfl, fr_l ⟨hl, h6⟩]
                           have e := ih (k + 1) (v1 + 1) (v2 + 0) 0 (vI (g 21 0 k)) (vI 1) (by omega) (by omega) (by omega) (by omega) (by omega) (by omega) (by omega) (by omega)
                           rw [cif_t rfl] at e
                           exact e)
                        | (have hz : ld = 1 ∧ (97 ≤ g 21 0 k ∧ g 21 0 k ≤ 96 + g 8 0 5) ∧ v2 < 6 := by omega
                           obtain ⟨hz, hl, h6⟩ := hz
                           subst hz
                           rw [cif_f (by decide), fr_l ⟨hl, h6⟩]
                           have e := ih (k + 1) (v1 + 0) (v2 + 1) 1 (vI (g 21 0 k)) (vI 1) (by omega) (by omega) (by omega) (by omega) (by omega) (by omega) (by omega) (by omega)
                           rw [cif_f (by decide)] at e
                           exact e)
                        | (have hz : ld = 0 ∧ ¬ (97 ≤ g 21 0 k ∧ g 21 0 k ≤ 96 + g 8 0 5) ∧ (g 21 0 k = 62 ∨ g 21 0 k = 61) ∧ 0 < v1 ∧ v2 = 0 := by omega
                           obtain ⟨hz, hl, h6, h7, h8⟩ := hz
                           subst hz
                           subst h8
                           rw [cif_t rfl, fr_a (fun z => hl z.1) ⟨h6, rfl, h7⟩]
                           have e := ih (k + 1) (v1 + 0) (0 + 0) 1 (vI (g 21 0 k)) (vI 1) (by omega) (by omega) (by omega) (by omega) (by omega) (by omega) (by omega) (by omega)
                           rw [cif_f (by decide)] at e
                           exact e)
                    · refine o_iload_n (n := 146) rfl rfl rfl ?_
                      refine o_if_eq (n := 149) (t := 153) rfl rfl rfl (fun k146 => ?_) (fun k146 => ?_)
                      · refine o_iconst (n := 154) rfl rfl ?_
                        refine o_iadd (n := 155) rfl rfl (by omega) ?_
                        refine o_istore_2 (n := 156) rfl rfl rfl ?_
                        refine o_iinc_4 (n := 159) rfl rfl rfl (by omega) ?_
                        refine o_goto (t := 9) rfl rfl ?_
                        first
                          | (exfalso; omega; done)
                          | (have hz : ld = 0 ∧ (97 ≤ g 21 0 k ∧ g 21 0 k ≤ 96 + g 8 0 5) ∧ v1 < 6 := by omega
                             obtain ⟨hz, hl, h6⟩ := hz
                             subst hz
                             rw [cif_t rfl, fr_l ⟨hl, h6⟩]
                             have e := ih (k + 1) (v1 + 1) (v2 + 0) 0 (vI (g 21 0 k)) (vI 1) (by omega) (by omega) (by omega) (by omega) (by omega) (by omega) (by omega) (by omega)
                             rw [cif_t rfl] at e
                             exact e)
                          | (have hz : ld = 1 ∧ (97 ≤ g 21 0 k ∧ g 21 0 k ≤ 96 + g 8 0 5) ∧ v2 < 6 := by omega
                             obtain ⟨hz, hl, h6⟩ := hz
                             subst hz
                             rw [cif_f (by decide), fr_l ⟨hl, h6⟩]
                             have e := ih (k + 1) (v1 + 0) (v2 + 1) 1 (vI (g 21 0 k)) (vI 1) (by omega) (by omega) (by omega) (by omega) (by omega) (by omega) (by omega) (by omega)
                             rw [cif_f (by decide)] at e
                             exact e)
                          | (have hz : ld = 0 ∧ ¬ (97 ≤ g 21 0 k ∧ g 21 0 k ≤ 96 + g 8 0 5) ∧ (g 21 0 k = 62 ∨ g 21 0 k = 61) ∧ 0 < v1 ∧ v2 = 0 := by omega
                             obtain ⟨hz, hl, h6, h7, h8⟩ := hz
                             subst hz
                             subst h8
                             rw [cif_t rfl, fr_a (fun z => hl z.1) ⟨h6, rfl, h7⟩]
                             have e := ih (k + 1) (v1 + 0) (0 + 0) 1 (vI (g 21 0 k)) (vI 1) (by omega) (by omega) (by omega) (by omega) (by omega) (by omega) (by omega) (by omega)
                             rw [cif_f (by decide)] at e
                             exact e)
                      · refine o_iconst (n := 150) rfl rfl ?_
                        refine o_goto (t := 154) rfl rfl ?_
                        refine o_iadd (n := 155) rfl rfl (by omega) ?_
                        refine o_istore_2 (n := 156) rfl rfl rfl ?_
                        refine o_iinc_4 (n := 159) rfl rfl rfl (by omega) ?_
                        refine o_goto (t := 9) rfl rfl ?_
                        first
                          | (exfalso; omega; done)
                          | (have hz : ld = 0 ∧ (97 ≤ g 21 0 k ∧ g 21 0 k ≤ 96 + g 8 0 5) ∧ v1 < 6 := by omega
                             obtain ⟨hz, hl, h6⟩ := hz
                             subst hz
                             rw [cif_t rfl, fr_l ⟨hl, h6⟩]
                             have e := ih (k + 1) (v1 + 1) (v2 + 0) 0 (vI (g 21 0 k)) (vI 1) (by omega) (by omega) (by omega) (by omega) (by omega) (by omega) (by omega) (by omega)
                             rw [cif_t rfl] at e
                             exact e)
                          | (have hz : ld = 1 ∧ (97 ≤ g 21 0 k ∧ g 21 0 k ≤ 96 + g 8 0 5) ∧ v2 < 6 := by omega
                             obtain ⟨hz, hl, h6⟩ := hz
                             subst hz
                             rw [cif_f (by decide), fr_l ⟨hl, h6⟩]
                             have e := ih (k + 1) (v1 + 0) (v2 + 1) 1 (vI (g 21 0 k)) (vI 1) (by omega) (by omega) (by omega) (by omega) (by omega) (by omega) (by omega) (by omega)
                             rw [cif_f (by decide)] at e
                             exact e)
                          | (have hz : ld = 0 ∧ ¬ (97 ≤ g 21 0 k ∧ g 21 0 k ≤ 96 + g 8 0 5) ∧ (g 21 0 k = 62 ∨ g 21 0 k = 61) ∧ 0 < v1 ∧ v2 = 0 := by omega
                             obtain ⟨hz, hl, h6, h7, h8⟩ := hz
                             subst hz
                             subst h8
                             rw [cif_t rfl, fr_a (fun z => hl z.1) ⟨h6, rfl, h7⟩]
                             have e := ih (k + 1) (v1 + 0) (0 + 0) 1 (vI (g 21 0 k)) (vI 1) (by omega) (by omega) (by omega) (by omega) (by omega) (by omega) (by omega) (by omega)
                             rw [cif_f (by decide)] at e
                             exact e)
                  · refine o_iconst (n := 129) rfl rfl ?_
                    refine o_goto (t := 133) rfl rfl ?_
                    refine o_iadd (n := 134) rfl rfl (by omega) ?_
                    refine o_istore_1 (n := 135) rfl rfl rfl ?_
                    refine o_iload_n (n := 136) rfl rfl rfl ?_
                    refine o_aload_n (n := 137) rfl rfl rfl ?_
                    refine o_iload (n := 139) rfl rfl rfl ?_
                    refine o_invi (n := 142) rfl rfl rfl rfl rfl rfl rfl rfl rfl rfl (c8_isSign _ hs0 hs1) ?_
                    refine o_ifb_eq (n := 145) (t := 153) rfl rfl rfl (fun k142 => ?_) (fun k142 => ?_)
                    · refine o_iconst (n := 154) rfl rfl ?_
                      refine o_iadd (n := 155) rfl rfl (by omega) ?_
                      refine o_istore_2 (n := 156) rfl rfl rfl ?_
                      refine o_iinc_4 (n := 159) rfl rfl rfl (by omega) ?_
                      refine o_goto (t := 9) rfl rfl ?_
                      first
                        | (exfalso; omega; done)
                        | (have hz : ld = 0 ∧ (97 ≤ g 21 0 k ∧ g 21 0 k ≤ 96 + g 8 0 5) ∧ v1 < 6 := by omega
                           obtain ⟨hz, hl, h6⟩ := hz
                           subst hz
                           rw [cif_t rfl, fr_l ⟨hl, h6⟩]
                           have e := ih (k + 1) (v1 + 1) (v2 + 0) 0 (vI (g 21 0 k)) (vI 1) (by omega) (by omega) (by omega) (by omega) (by omega) (by omega) (by omega) (by omega)
                           rw [cif_t rfl] at e
                           exact e)
                        | (have hz : ld = 1 ∧ (97 ≤ g 21 0 k ∧ g 21 0 k ≤ 96 + g 8 0 5) ∧ v2 < 6 := by omega
                           obtain ⟨hz, hl, h6⟩ := hz
                           subst hz
                           rw [cif_f (by decide), fr_l ⟨hl, h6⟩]
                           have e := ih (k + 1) (v1 + 0) (v2 + 1) 1 (vI (g 21 0 k)) (vI 1) (by omega) (by omega) (by omega) (by omega) (by omega) (by omega) (by omega) (by omega)
                           rw [cif_f (by decide)] at e
                           exact e)
                        | (have hz : ld = 0 ∧ ¬ (97 ≤ g 21 0 k ∧ g 21 0 k ≤ 96 + g 8 0 5) ∧ (g 21 0 k = 62 ∨ g 21 0 k = 61) ∧ 0 < v1 ∧ v2 = 0 := by omega
                           obtain ⟨hz, hl, h6, h7, h8⟩ := hz
                           subst hz
                           subst h8
                           rw [cif_t rfl, fr_a (fun z => hl z.1) ⟨h6, rfl, h7⟩]
                           have e := ih (k + 1) (v1 + 0) (0 + 0) 1 (vI (g 21 0 k)) (vI 1) (by omega) (by omega) (by omega) (by omega) (by omega) (by omega) (by omega) (by omega)
                           rw [cif_f (by decide)] at e
                           exact e)
                    · refine o_iload_n (n := 146) rfl rfl rfl ?_
                      refine o_if_eq (n := 149) (t := 153) rfl rfl rfl (fun k146 => ?_) (fun k146 => ?_)
                      · refine o_iconst (n := 154) rfl rfl ?_
                        refine o_iadd (n := 155) rfl rfl (by omega) ?_
                        refine o_istore_2 (n := 156) rfl rfl rfl ?_
                        refine o_iinc_4 (n := 159) rfl rfl rfl (by omega) ?_
                        refine o_goto (t := 9) rfl rfl ?_
                        first
                          | (exfalso; omega; done)
                          | (have hz : ld = 0 ∧ (97 ≤ g 21 0 k ∧ g 21 0 k ≤ 96 + g 8 0 5) ∧ v1 < 6 := by omega
                             obtain ⟨hz, hl, h6⟩ := hz
                             subst hz
                             rw [cif_t rfl, fr_l ⟨hl, h6⟩]
                             have e := ih (k + 1) (v1 + 1) (v2 + 0) 0 (vI (g 21 0 k)) (vI 1) (by omega) (by omega) (by omega) (by omega) (by omega) (by omega) (by omega) (by omega)
                             rw [cif_t rfl] at e
                             exact e)
                          | (have hz : ld = 1 ∧ (97 ≤ g 21 0 k ∧ g 21 0 k ≤ 96 + g 8 0 5) ∧ v2 < 6 := by omega
                             obtain ⟨hz, hl, h6⟩ := hz
                             subst hz
                             rw [cif_f (by decide), fr_l ⟨hl, h6⟩]
                             have e := ih (k + 1) (v1 + 0) (v2 + 1) 1 (vI (g 21 0 k)) (vI 1) (by omega) (by omega) (by omega) (by omega) (by omega) (by omega) (by omega) (by omega)
                             rw [cif_f (by decide)] at e
                             exact e)
                          | (have hz : ld = 0 ∧ ¬ (97 ≤ g 21 0 k ∧ g 21 0 k ≤ 96 + g 8 0 5) ∧ (g 21 0 k = 62 ∨ g 21 0 k = 61) ∧ 0 < v1 ∧ v2 = 0 := by omega
                             obtain ⟨hz, hl, h6, h7, h8⟩ := hz
                             subst hz
                             subst h8
                             rw [cif_t rfl, fr_a (fun z => hl z.1) ⟨h6, rfl, h7⟩]
                             have e := ih (k + 1) (v1 + 0) (0 + 0) 1 (vI (g 21 0 k)) (vI 1) (by omega) (by omega) (by omega) (by omega) (by omega) (by omega) (by omega) (by omega)
                             rw [cif_f (by decide)] at e
                             exact e)
                      · refine o_iconst (n := 150) rfl rfl ?_
                        refine o_goto (t := 154) rfl rfl ?_
                        refine o_iadd (n := 155) rfl rfl (by omega) ?_
                        refine o_istore_2 (n := 156) rfl rfl rfl ?_
                        refine o_iinc_4 (n := 159) rfl rfl rfl (by omega) ?_
                        refine o_goto (t := 9) rfl rfl ?_
                        first
                          | (exfalso; omega; done)
                          | (have hz : ld = 0 ∧ (97 ≤ g 21 0 k ∧ g 21 0 k ≤ 96 + g 8 0 5) ∧ v1 < 6 := by omega
                             obtain ⟨hz, hl, h6⟩ := hz
                             subst hz
                             rw [cif_t rfl, fr_l ⟨hl, h6⟩]
                             have e := ih (k + 1) (v1 + 1) (v2 + 0) 0 (vI (g 21 0 k)) (vI 1) (by omega) (by omega) (by omega) (by omega) (by omega) (by omega) (by omega) (by omega)
                             rw [cif_t rfl] at e
                             exact e)
                          | (have hz : ld = 1 ∧ (97 ≤ g 21 0 k ∧ g 21 0 k ≤ 96 + g 8 0 5) ∧ v2 < 6 := by omega
                             obtain ⟨hz, hl, h6⟩ := hz
                             subst hz
                             rw [cif_f (by decide), fr_l ⟨hl, h6⟩]
                             have e := ih (k + 1) (v1 + 0) (v2 + 1) 1 (vI (g 21 0 k)) (vI 1) (by omega) (by omega) (by omega) (by omega) (by omega) (by omega) (by omega) (by omega)
                             rw [cif_f (by decide)] at e
                             exact e)
                          | (have hz : ld = 0 ∧ ¬ (97 ≤ g 21 0 k ∧ g 21 0 k ≤ 96 + g 8 0 5) ∧ (g 21 0 k = 62 ∨ g 21 0 k = 61) ∧ 0 < v1 ∧ v2 = 0 := by omega
                             obtain ⟨hz, hl, h6, h7, h8⟩ := hz
                             subst hz
                             subst h8
                             rw [cif_t rfl, fr_a (fun z => hl z.1) ⟨h6, rfl, h7⟩]
                             have e := ih (k + 1) (v1 + 0) (0 + 0) 1 (vI (g 21 0 k)) (vI 1) (by omega) (by omega) (by omega) (by omega) (by omega) (by omega) (by omega) (by omega)
                             rw [cif_f (by decide)] at e
                             exact e)
          · refine o_iload (n := 94) rfl rfl rfl ?_
            refine o_iret rfl rfl ?_
            first
              | (exfalso; omega; done)
              | (refine ⟨congrArg (fun z => some (vI z)) ?_, rfl, rfl⟩
                 by_cases hz : ld = 0
                 · rw [cif_t hz, fr_x (by omega) (by omega)]
                 · rw [cif_f hz, fr_x (by omega) (by omega)])
theorem c8_faultOfRule (hS : am_St r) (hs0 : 1 ≤ g 8 0 5) (hs1 : g 8 0 5 ≤ 4) (h0 : 0 ≤ g 8 0 7) (hT : g 8 0 7 ≤ 20) : Rt 125 [vR 8 0] g r (some (vI (fr g 21 (g 8 0 5) (g 8 0 7).toNat 0 0 0))) g r := by
  refine rt_of ?_
  show Ou 125 0 [vR 8 0, vN, vN, vN, vN, vN, vN] [] g r _
  refine o_iconst (n := 1) rfl rfl ?_
  refine o_istore_1 (n := 2) rfl rfl rfl ?_
  refine o_iconst (n := 3) rfl rfl ?_
  refine o_istore_2 (n := 4) rfl rfl rfl ?_
  refine o_iconst (n := 5) rfl rfl ?_
  refine o_istore_3 (n := 6) rfl rfl rfl ?_
  refine o_iconst (n := 7) rfl rfl ?_
  refine o_istore_4 (n := 9) rfl rfl rfl ?_
  have e := l8_faultOfRule hS hs0 hs1 hT (g 8 0 7).toNat 0 0 0 0 vN vN (by omega) (by omega) (by omega) (by omega) (by omega) (by omega) (by omega) (by omega)
  rw [cif_t rfl] at e
  exact e
end FR
