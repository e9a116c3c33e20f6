/-! rule. Written by wip/gen/gen59.py -/
def ltr (g : GI) (K : Nat) (s k : Int) : Prop := 97 ≤ g K 0 k ∧ g K 0 k ≤ 96 + s
theorem fr_ok1 {g : GI} {K : Nat} {s : Int} : ∀ {n : Nat} {j q : Int}, 0 ≤ j → q ≤ 6 → fr g K s n j 1 q = -1 → (∀ k, j ≤ k → k < j + n → ltr g K s k) ∧ q + n ≤ 6
  | 0, j, q, _, hq, _ => ⟨fun k a b => by omega, by omega⟩
  | n + 1, j, q, hj, hq, h => by
    by_cases e : (97 ≤ g K 0 j ∧ g K 0 j ≤ 96 + s) ∧ q < 6
    · rw [fr_l e] at h
      have ih := fr_ok1 (by omega) (by omega) h
      refine ⟨fun k a b => ?_, by omega⟩
      by_cases w : k = j
      · rw [w]; exact e.1
      · exact ih.1 k (by omega) (by omega)
    · rw [fr_x e (by omega)] at h; omega
theorem fr_ok0 {g : GI} {K : Nat} {s : Int} : ∀ {n : Nat} {j q : Int}, 0 ≤ j → 0 ≤ q → q ≤ 6 → fr g K s n j 0 q = -1 → ∃ A, (j ≤ A ∧ A < j + n) ∧ (∀ k, j ≤ k → k < A → ltr g K s k) ∧ (0 < q + (A - j) ∧ q + (A - j) ≤ 6) ∧ (g K 0 A = 62 ∨ g K 0 A = 61) ∧ (∀ k, A + 1 ≤ k → k < j + n → ltr g K s k) ∧ j + n - A - 1 ≤ 6
  | 0, j, q, hj, _, _, h => by
    have h : cif ((0 : Int) = 0) j (-1) = -1 := h
    rw [cif_t rfl] at h
    omega
  | n + 1, j, q, hj, q0, hq, h => by
    by_cases e : (97 ≤ g K 0 j ∧ g K 0 j ≤ 96 + s) ∧ q < 6
    · rw [fr_l e] at h
      obtain ⟨A, a1, a2, a3, a4, a5, a6⟩ := fr_ok0 (by omega) (by omega) (by omega) h
      refine ⟨A, by omega, fun k a b => ?_, by omega, a4, fun k a b => a5 k a (by omega), by omega⟩
      by_cases w : k = j
      · rw [w]; exact e.1
      · exact a2 k (by omega) b
    · by_cases f : (g K 0 j = 62 ∨ g K 0 j = 61) ∧ (0 : Int) = 0 ∧ 0 < q
      · rw [fr_a e f] at h
        have w := fr_ok1 (by omega) (by omega) h
        exact ⟨j, by omega, fun k a b => by omega, by omega, f.1, fun k a b => w.1 k a (by omega), by omega⟩
      · rw [fr_x e f] at h; omega
/-- a rule told: its arrow's place -/
def Aok (g : GI) (K : Nat) (s T A : Int) : Prop := (0 < A ∧ A ≤ 6) ∧ (A < T ∧ T - A - 1 ≤ 6) ∧ (∀ k, 0 ≤ k → k < A → ltr g K s k) ∧ (g K 0 A = 62 ∨ g K 0 A = 61) ∧ ∀ k, A + 1 ≤ k → k < T → ltr g K s k
theorem Aok_of {g : GI} {K : Nat} {s T : Int} (T0 : 0 ≤ T) (h : fr g K s T.toNat 0 0 0 = -1) : ∃ A, Aok g K s T A := by
  obtain ⟨A, a1, a2, a3, a4, a5, a6⟩ := fr_ok0 (by omega) (by omega) (by omega) h
  exact ⟨A, by omega, by omega, fun k a b => a2 k a b, a4, fun k a b => a5 k a (by omega)⟩
theorem fr_r {g : GI} {K : Nat} {s : Int} : ∀ {n : Nat} {j ld q : Int}, 0 ≤ j → fr g K s n j ld q = -1 ∨ (j ≤ fr g K s n j ld q ∧ fr g K s n j ld q ≤ j + n)
  | 0, j, ld, q, hj => by
    show cif (ld = 0) j (-1) = -1 ∨ (j ≤ cif (ld = 0) j (-1) ∧ cif (ld = 0) j (-1) ≤ j + 0)
    by_cases e : ld = 0
    · rw [cif_t e]; omega
    · rw [cif_f e]; exact Or.inl rfl
  | n + 1, j, ld, q, hj => by
    by_cases e : (97 ≤ g K 0 j ∧ g K 0 j ≤ 96 + s) ∧ q < 6
    · rw [fr_l e]
      rcases fr_r (g := g) (K := K) (s := s) (n := n) (j := j + 1) (ld := ld) (q := q + 1) (by omega) with w | w
      · exact Or.inl w
      · exact Or.inr (by omega)
    · by_cases f : (g K 0 j = 62 ∨ g K 0 j = 61) ∧ ld = 0 ∧ 0 < q
      · rw [fr_a e f]
        rcases fr_r (g := g) (K := K) (s := s) (n := n) (j := j + 1) (ld := 1) (q := 0) (by omega) with w | w
        · exact Or.inl w
        · exact Or.inr (by omega)
      · rw [fr_x e f]; exact Or.inr (by omega)
/-- what telling does to the rule object q -/
def T7 (g G : GI) (q T A : Int) : Prop := (∀ k, k ≠ 1 → k ≠ 2 → k ≠ 10 → G k = g k) ∧ (∀ i s, i ≠ 1 + 2 * q → i ≠ 2 + 2 * q → G 1 i s = g 1 i s ∧ G 10 i s = g 10 i s) ∧ (∀ i s, i ≠ q → G 2 i s = g 2 i s) ∧ (G 1 (1 + 2 * q) 1 = A ∧ G 1 (2 + 2 * q) 1 = T - A - 1) ∧ (∀ s, 0 ≤ s → s < A → G 10 (1 + 2 * q) s = g 12 0 s - 97) ∧ (∀ s, 0 ≤ s → s < T - A - 1 → G 10 (2 + 2 * q) s = g 12 0 (A + 1 + s) - 97) ∧ G 2 q 2 = bi (g 12 0 A = 62) ∧ G 2 q 3 = 0
section RULE
variable {c : Int} {g h r g0 r0 : GI}
theorem ap_eq {s T A : Int} (s1 : s ≤ 4) (a : Aok g 12 s T A) (T0 : 0 ≤ T) : fi T.toNat 0 (fun j => g 12 0 j = 62 ∨ g 12 0 j = 61) T = A := by
  obtain ⟨a1, a2, a3, a4, a5⟩ := a
  refine fi_eq (by omega) (fun j j0 j1 => ?_) (Or.inr ⟨by omega, a4⟩)
  have := a3 j j0 j1
  unfold ltr at this
  omega
theorem c2_tell {q A s : Int} (hS : am_St r) (q0 : 0 ≤ q) (q1 : q < 8) (T0 : 0 ≤ g 5 0 1) (T1 : g 5 0 1 ≤ 20) (s1 : s ≤ 4) (a : Aok g 12 s (g 5 0 1) A) : Ou 21 0 (am_ini 21 [vR 2 q, vR 5 0]) [] g r (fun x G r1 => x = none ∧ r1 = r ∧ T7 g G q (g 5 0 1) A) := by
  show Ou 21 0 [vR 2 q, vR 5 0, vN] [] g r _
  have hap := ap_eq s1 a T0
  obtain ⟨a1, a2, a3, a4, a5⟩ := id a
  refine o_aload_n (n := 1) rfl rfl rfl ?_
  have hca := c5_arrowPlace (g := g) (r := r) hS T0 T1
  rw [hap] at hca
  refine o_invi (n := 4) rfl rfl rfl rfl rfl rfl rfl rfl rfl rfl (hca) ?_
  refine o_istore_2 (n := 5) rfl rfl rfl ?_
  refine o_aload_n (n := 6) rfl rfl rfl ?_
  refine of_2_0 (n := 9) hS rfl rfl (by omega) (by omega) ?_
  refine o_iconst (n := 10) rfl rfl ?_
  refine o_puti (n := 13) rfl rfl rfl (ok_1 (by omega) (by omega)) rfl ?_
  refine o_aload_n (n := 14) rfl rfl rfl ?_
  refine of_2_1 (n := 17) hS rfl rfl (by omega) (by omega) ?_
  refine o_iconst (n := 18) rfl rfl ?_
  refine o_puti (n := 21) rfl rfl rfl (ok_1 (by omega) (by omega)) rfl ?_
  refine o_aload_n (n := 22) rfl rfl rfl ?_
  refine o_iconst (n := 23) rfl rfl ?_
  refine o_iload_n (n := 24) rfl rfl rfl ?_
  refine o_aload_n (n := 25) rfl rfl rfl ?_
  refine of_2_0 (n := 28) hS rfl rfl (by omega) (by omega) ?_
  have el : gset (gset g 1 (1 + 2 * q) 1 0) 1 (2 + 2 * q) 1 0 1 (1 + 2 * q) 1 = 0 := by rw [gset_i (by omega), gset_at]
  have al1 : am_al 10 (1 + 2 * q) = 6 := al10 (by omega)
  have al2 : am_al 10 (2 + 2 * q) = 6 := al10 (by omega)
  have hp1 := c5_pour (g := gset (gset g 1 (1 + 2 * q) 1 0) 1 (2 + 2 * q) 1 0) (r := r) (q := 1 + 2 * q) (a := 0) (b := A) hS (by omega) (by omega) (by omega) (by omega) (by rw [el]; omega) (by rw [el]; omega) (by omega) (fun s s0 s1 => by
    rw [gset_k rfl, gset_k rfl]
    have := a3 s s0 s1
    unfold ltr at this
    omega) (by omega)
  rw [el] at hp1
  refine o_invv (n := 31) rfl rfl rfl rfl rfl rfl rfl rfl rfl rfl (hp1) ?_
  refine o_aload_n (n := 32) rfl rfl rfl ?_
  refine o_iload_n (n := 33) rfl rfl rfl ?_
  refine o_iconst (n := 34) rfl rfl ?_
  refine o_iadd (n := 35) rfl rfl (by omega) ?_
  refine o_aload_n (n := 36) rfl rfl rfl ?_
  refine o_geti (n := 39) rfl rfl rfl rfl rfl ?_
  rw [prf_k (by decide) (by decide), gset_k rfl, gset_k rfl]
  refine o_aload_n (n := 40) rfl rfl rfl ?_
  refine of_2_1 (n := 43) hS rfl rfl (by omega) (by omega) ?_
  have er : (prf (gset (gset g 1 (1 + 2 * q) 1 0) 1 (2 + 2 * q) 1 0) (1 + 2 * q) 0 0 (A - 0)) 1 (2 + 2 * q) 1 = 0 := by rw [prf_o (by omega), gset_at]
  have hp2 := c5_pour (g := (prf (gset (gset g 1 (1 + 2 * q) 1 0) 1 (2 + 2 * q) 1 0) (1 + 2 * q) 0 0 (A - 0))) (r := r) (q := 2 + 2 * q) (a := A + 1) (b := g 5 0 1) hS (by omega) (by omega) (by omega) (by omega) (by rw [er]; omega) (by rw [er]; omega) (by omega) (fun s s0 s1 => by
    rw [prf_k (by decide) (by decide), gset_k rfl, gset_k rfl]
    have := a5 s s0 s1
    unfold ltr at this
    omega) (by omega)
  rw [er] at hp2
  refine o_invv (n := 46) rfl rfl rfl rfl rfl rfl rfl rfl rfl rfl (hp2) ?_
  refine o_aload_n (n := 47) rfl rfl rfl ?_
  refine o_aload_n (n := 48) rfl rfl rfl ?_
  refine o_iload_n (n := 49) rfl rfl rfl ?_
  refine o_bipush (n := 51) rfl rfl ?_
  have e5 : (prf (prf (gset (gset g 1 (1 + 2 * q) 1 0) 1 (2 + 2 * q) 1 0) (1 + 2 * q) 0 0 (A - 0)) (2 + 2 * q) (A + 1) 0 (g 5 0 1 - (A + 1))) 5 0 1 = g 5 0 1 := by rw [prf_k (by decide) (by decide), prf_k (by decide) (by decide), gset_k rfl, gset_k rfl]
  have e12 : (prf (prf (gset (gset g 1 (1 + 2 * q) 1 0) 1 (2 + 2 * q) 1 0) (1 + 2 * q) 0 0 (A - 0)) (2 + 2 * q) (A + 1) 0 (g 5 0 1 - (A + 1))) 12 = g 12 := by rw [prf_k (by decide) (by decide), prf_k (by decide) (by decide), gset_kf (by decide), gset_kf (by decide)]
  have hh := c5_hasAt (g := (prf (prf (gset (gset g 1 (1 + 2 * q) 1 0) 1 (2 + 2 * q) 1 0) (1 + 2 * q) 0 0 (A - 0)) (2 + 2 * q) (A + 1) 0 (g 5 0 1 - (A + 1)))) (r := r) hS A 62 (by omega)
  rw [e5, e12, bi_congr (show (0 ≤ A ∧ A < g 5 0 1 ∧ g 12 0 A = 62) ↔ g 12 0 A = 62 by omega)] at hh
  refine o_invi (n := 54) rfl rfl rfl rfl rfl rfl rfl rfl rfl rfl (hh) ?_
  refine o_putz (n := 57) rfl rfl rfl (ok_2 (by omega) (by omega)) rfl (bi_01 _) ?_
  refine o_aload_n (n := 58) rfl rfl rfl ?_
  refine o_iconst (n := 59) rfl rfl ?_
  refine o_puti (n := 62) rfl rfl rfl (ok_2 (by omega) (by omega)) rfl ?_
  refine o_vret rfl ?_
  refine ⟨rfl, rfl, fun k a b d => ?_, fun i s x y => ⟨?_, ?_⟩, fun i s x => ?_, ⟨?_, ?_⟩, fun s s0 s1 => ?_, fun s s0 s1 => ?_, ?_, ?_⟩
  · rw [gset_kf b, gset_kf b, prf_k a d, prf_k a d, gset_kf a, gset_kf a]
  · rw [gset_k rfl, gset_k rfl, prf_o y, prf_o x, gset_i y, gset_i x]
  · rw [gset_k rfl, gset_k rfl, prf_o y, prf_o x, gset_k rfl, gset_k rfl]
  · rw [gset_i x, gset_i x, prf_k (by decide) (by decide), prf_k (by decide) (by decide), gset_k rfl, gset_k rfl]
  · rw [gset_k rfl, gset_k rfl, prf_o (by omega), prf_1]; omega
  · rw [gset_k rfl, gset_k rfl, prf_1]; omega
  · rw [gset_k rfl, gset_k rfl, prf_o (by omega), prf_10 (by omega) (by omega), gset_k rfl, gset_k rfl, show 0 + (s - 0) = s by omega]
  · rw [gset_k rfl, gset_k rfl, prf_10 (by omega) (by omega), prf_k (by decide) (by decide), gset_k rfl, gset_k rfl, show A + 1 + (s - 0) = A + 1 + s by omega]
  · rw [gset_s (by decide), gset_at]
  · rw [gset_at]
noncomputable def ruA (g : GI) : Int := cif (0 < g 8 0 19) (-3) (cif (g 8 0 8 = 8) (-4) (cif (frS g = -1) (g 8 0 8) (-1000 - frS g)))
def ruok (g : GI) : Prop := g 8 0 19 = 0 ∧ g 8 0 8 ≠ 8 ∧ frS g = -1
theorem c7_rule (hI : Iv c g g r) : Ou 49 0 (am_ini 49 [vR 7 0]) [] g r (fun x g1 r1 => x = some (vI (ruA g)) ∧ ((¬ ruok g ∧ g1 = g ∧ r1 = r) ∨ (ruok g ∧ r1 = r ∧ ∃ A G, Aok g 12 (g 7 0 9) (g 5 0 1) A ∧ T7 g G (r 14 0 (g 7 0 10)) (g 5 0 1) A ∧ g1 = gset (gset G 5 0 1 0) 7 0 10 (g 7 0 10 + 1)))) := by
  show Ou 49 0 [vR 7 0, vN] [] g r _
  obtain ⟨⟨hS, hR, h6, hP⟩, hsg, htx, hru, hwd, hnw, hst, hsh, hla⟩ := id hI
  obtain ⟨sg1, sg2, sg3⟩ := hI.2.1
  obtain ⟨tx1, tx2, tx3, tx4⟩ := hI.2.2.1
  have ru0 : g 7 0 10 = g 8 0 8 := hI.2.2.2.1.1.1
  have ru1 := hI.2.2.2.1.2.1.1
  have wd0 : g 1 0 1 = g 8 0 14 := hI.2.2.2.2.1.1.1
  have wd1 := hI.2.2.2.2.1.2.1.1
  have wd2 := hI.2.2.2.2.1.2.2
  have nw0 : g 0 0 0 = g 27 0 8 := hI.2.2.2.2.2.1.1.1
  have nw1 : g 0 0 1 = g 28 0 8 := hI.2.2.2.2.2.1.1.2.1
  have nw2 := hI.2.2.2.2.2.1.2.1
  have nw3 := hI.2.2.2.2.2.1.2.2.1
  have st0 := hI.2.2.2.2.2.2.1.1
  have st1 := hI.2.2.2.2.2.2.1.2.1
  have st2 := hI.2.2.2.2.2.2.1.2.2.1
  have la0 : g 7 0 13 = g 8 0 4 := hI.2.2.2.2.2.2.2.2
  refine o_aload_n (n := 1) rfl rfl rfl ?_
  refine o_geti (n := 4) rfl rfl rfl rfl rfl ?_
  refine o_if_le (n := 7) (t := 10) rfl rfl rfl (fun z4 => ?_) (fun z4 => ?_)
  · refine o_aload_n (n := 11) rfl rfl rfl ?_
    refine o_geti (n := 14) rfl rfl rfl rfl rfl ?_
    refine o_bipush (n := 16) rfl rfl ?_
    refine o_icmp_lt (n := 19) (t := 22) rfl rfl rfl (fun z16 => ?_) (fun z16 => ?_)
    · refine o_aload_n (n := 23) rfl rfl rfl ?_
      refine of_7_0 (n := 26) hS rfl rfl ?_
      refine o_aload_n (n := 27) rfl rfl rfl ?_
      refine o_geti (n := 30) rfl rfl rfl rfl rfl ?_
      have hfa := c5_faultAsRule (g := g) (r := r) hS (g 7 0 9) (by omega) (by omega) (by omega) (by omega)
      rw [fr7 hsg htx] at hfa
      have hfr : frS g = -1 ∨ (0 ≤ frS g ∧ frS g ≤ 20) := by
        rcases fr_r (g := g) (K := 21) (s := g 8 0 5) (n := (g 8 0 7).toNat) (j := 0) (ld := 0) (q := 0) (by omega) with w | w
        · exact Or.inl w
        · refine Or.inr ⟨w.1, ?_⟩
          have : frS g ≤ 0 + ((g 8 0 7).toNat : Int) := w.2
          omega
      refine o_invi (n := 33) rfl rfl rfl rfl rfl rfl rfl rfl rfl rfl (hfa) ?_
      refine o_istore_1 (n := 34) rfl rfl rfl ?_
      refine o_iload_n (n := 35) rfl rfl rfl ?_
      refine o_iconst (n := 36) rfl rfl ?_
      refine o_icmp_eq (n := 39) (t := 44) rfl rfl rfl (fun z36 => ?_) (fun z36 => ?_)
      · refine o_aload_n (n := 45) rfl rfl rfl ?_
        refine of_7_2 (n := 48) hS rfl rfl ?_
        refine o_aload_n (n := 49) rfl rfl rfl ?_
        refine o_geti (n := 52) rfl rfl rfl rfl rfl ?_
        refine o_ra14 (n := 53) hR rfl rfl (by omega) (by omega) (fun hA52 hB52 => ?_)
        refine o_aload_n (n := 54) rfl rfl rfl ?_
        refine of_7_0 (n := 57) hS rfl rfl ?_
        have hf : frS g = -1 := by omega
        obtain ⟨A, hA⟩ := Aok_of (g := g) (K := 12) (s := g 7 0 9) (T := g 5 0 1) tx1 (by rw [fr7 hsg htx]; exact hf)
        obtain ⟨v2, G, r2, hc2, e1, e2, hT⟩ := rt_ex (c2_tell (q := r 14 0 (g 7 0 10)) hS (by omega) (by omega) tx1 tx2 (s := g 7 0 9) (by omega) hA)
        subst e1
        subst e2
        have t7 : G 7 = g 7 := hT.1 7 (by decide) (by decide) (by decide)
        refine o_invv (n := 60) rfl rfl rfl rfl rfl rfl rfl rfl rfl (ok_2 (by omega) (by omega)) (hc2) ?_
        refine o_aload_n (n := 61) rfl rfl rfl ?_
        refine of_7_0 (n := 64) hS rfl rfl ?_
        refine o_iconst (n := 65) rfl rfl ?_
        refine o_puti (n := 68) rfl rfl rfl rfl rfl ?_
        refine o_aload_n (n := 69) rfl rfl rfl ?_
        refine o_dup (n := 70) rfl rfl rfl ?_
        refine o_geti (n := 73) rfl rfl rfl rfl rfl ?_
        rw [gset_k rfl, t7]
        refine o_iconst (n := 74) rfl rfl ?_
        refine o_iadd (n := 75) rfl rfl (by omega) ?_
        refine o_puti (n := 78) rfl rfl rfl rfl rfl ?_
        refine o_aload_n (n := 79) rfl rfl rfl ?_
        refine o_geti (n := 82) rfl rfl rfl rfl rfl ?_
        rw [gset_at]
        refine o_iconst (n := 83) rfl rfl ?_
        refine o_isub (n := 84) rfl rfl (by omega) ?_
        refine o_iret rfl rfl ?_
        first
          | (exfalso; omega; done)
          | (have hn : ¬ ruok g := fun z => by have := z.1; have := z.2.1; have := z.2.2; omega
             refine ⟨?_, Or.inl ⟨hn, rfl, rfl⟩⟩
             unfold ruA
             first
               | rw [cif_t (by omega)]
               | rw [cif_f (by omega), cif_t (by omega)]
               | rw [cif_f (by omega), cif_f (by omega), cif_f (by omega)])
          | (have ho : ruok g := ⟨by omega, by omega, hf⟩
             refine ⟨?_, Or.inr ⟨ho, rfl, A, G, hA, hT, ?_⟩⟩
             · unfold ruA
               rw [cif_f (by omega), cif_f (by omega), cif_t hf]
               exact congrArg (fun z => some (vI z)) (by omega)
             · rfl)
      · refine o_iload_n (n := 40) rfl rfl rfl ?_
        refine o_invsi (n := 43) rfl rfl rfl rfl rfl rfl (c7_faultAnswer _ (by omega) (by omega)) ?_
        refine o_iret rfl rfl ?_
        first
          | (exfalso; omega; done)
          | (have hn : ¬ ruok g := fun z => by have := z.1; have := z.2.1; have := z.2.2; omega
             refine ⟨?_, Or.inl ⟨hn, rfl, rfl⟩⟩
             unfold ruA
             first
               | rw [cif_t (by omega)]
               | rw [cif_f (by omega), cif_t (by omega)]
               | rw [cif_f (by omega), cif_f (by omega), cif_f (by omega)])
          | (have ho : ruok g := ⟨by omega, by omega, hf⟩
             refine ⟨?_, Or.inr ⟨ho, rfl, A, G, hA, hT, ?_⟩⟩
             · unfold ruA
               rw [cif_f (by omega), cif_f (by omega), cif_t hf]
               exact congrArg (fun z => some (vI z)) (by omega)
             · rfl)
    · refine o_bipush (n := 21) rfl rfl ?_
      refine o_iret rfl rfl ?_
      first
        | (exfalso; omega; done)
        | (have hn : ¬ ruok g := fun z => by have := z.1; have := z.2.1; have := z.2.2; omega
           refine ⟨?_, Or.inl ⟨hn, rfl, rfl⟩⟩
           unfold ruA
           first
             | rw [cif_t (by omega)]
             | rw [cif_f (by omega), cif_t (by omega)]
             | rw [cif_f (by omega), cif_f (by omega), cif_f (by omega)])
        | (have ho : ruok g := ⟨by omega, by omega, hf⟩
           refine ⟨?_, Or.inr ⟨ho, rfl, A, G, hA, hT, ?_⟩⟩
           · unfold ruA
             rw [cif_f (by omega), cif_f (by omega), cif_t hf]
             exact congrArg (fun z => some (vI z)) (by omega)
           · rfl)
  · refine o_bipush (n := 9) rfl rfl ?_
    refine o_iret rfl rfl ?_
    first
      | (exfalso; omega; done)
      | (have hn : ¬ ruok g := fun z => by have := z.1; have := z.2.1; have := z.2.2; omega
         refine ⟨?_, Or.inl ⟨hn, rfl, rfl⟩⟩
         unfold ruA
         first
           | rw [cif_t (by omega)]
           | rw [cif_f (by omega), cif_t (by omega)]
           | rw [cif_f (by omega), cif_f (by omega), cif_f (by omega)])
      | (have ho : ruok g := ⟨by omega, by omega, hf⟩
         refine ⟨?_, Or.inr ⟨ho, rfl, A, G, hA, hT, ?_⟩⟩
         · unfold ruA
           rw [cif_f (by omega), cif_f (by omega), cif_t hf]
           exact congrArg (fun z => some (vI z)) (by omega)
         · rfl)
end RULE
