/-! read. Written by wip/gen/gen53.py -/
theorem fi_eq {P : Int → Prop} {d v : Int} : ∀ {n : Nat} {k : Int}, k ≤ v → (∀ j, k ≤ j → j < v → ¬ P j) → ((v = k + n ∧ d = v) ∨ (v < k + n ∧ P v)) → fi n k P d = v
  | 0, k, h0, h1, h2 => by
    rcases h2 with h2 | h2
    · exact h2.2
    · omega
  | n + 1, k, h0, h1, h2 => by
    by_cases e : k = v
    · rcases h2 with h2 | h2
      · omega
      · rw [e]; exact fi_t h2.2
    · rw [fi_f (h1 k (by omega) (by omega))]
      exact fi_eq (by omega) (fun j a b => h1 j (by omega) b) (by
        rcases h2 with h2 | h2
        · exact Or.inl ⟨by omega, h2.2⟩
        · exact Or.inr ⟨by omega, h2.2⟩)
def itm (h : GI) (p j : Int) : Int := h 19 0 (60 * p + j)
def bad (h : GI) (p j : Int) : Prop := ¬ (-1 ≤ itm h p j ∧ itm h p j ≤ 999)
noncomputable def rdL (h : GI) (p : Int) : Int := cif (h 28 0 8 * h 28 0 8 ≤ h 18 0 p) (h 28 0 8 * h 28 0 8) (h 18 0 p)
theorem rdL_s (h : GI) (p : Int) : rdL h p ≤ h 28 0 8 * h 28 0 8 ∧ rdL h p ≤ h 18 0 p ∧ (rdL h p = h 28 0 8 * h 28 0 8 ∨ rdL h p = h 18 0 p) := by
  unfold rdL
  by_cases e : h 28 0 8 * h 28 0 8 ≤ h 18 0 p
  · rw [cif_t e]; omega
  · rw [cif_f e]; omega
noncomputable def rdc (h : GI) (p : Int) : Int := fi (rdL h p).toNat 0 (bad h p) (rdL h p)
def Rdf (h : GI) (a p n : Int) : Nat → GI
  | 0 => h
  | k + 1 => gset (Rdf h a p n k) 26 0 (288 + 9 * a + 3 * ((k : Int) / n) + (k : Int) % n) (itm h p (k : Int))
theorem Rdf_k {h : GI} {a p n : Int} {k : Nat} (e : k ≠ 26) : ∀ j : Nat, Rdf h a p n j k = h k
  | 0 => rfl
  | j + 1 => by
    show gset (Rdf h a p n j) 26 0 _ _ k = h k
    rw [gset_kf e, Rdf_k e j]
theorem Rdf_c {h h1 : GI} {a p n : Int} (A : Ag h h1) : ∀ j : Nat, Ag (Rdf h a p n j) (Rdf h1 a p n j)
  | 0 => A
  | j + 1 => by
    have ih := Rdf_c (a := a) (p := p) (n := n) A j
    have ei : itm h1 p (j : Int) = itm h p (j : Int) := by unfold itm; rw [A.1 19 (by omega) (by decide)]
    refine ⟨fun k hk k26 => ?_, fun s hs => ?_⟩
    · rw [Rdf_k k26, Rdf_k k26]; exact A.1 k hk k26
    · show gset (Rdf h1 a p n j) 26 0 _ _ 26 0 s = gset (Rdf h a p n j) 26 0 _ _ 26 0 s
      rw [ei]
      by_cases e : s = 288 + 9 * a + 3 * ((j : Int) / n) + (j : Int) % n
      · rw [← e, gset_at, gset_at]
      · rw [gset_s e, gset_s e]; exact ih.2 s hs
theorem dm {n x y : Int} (n0 : 1 ≤ n) (n1 : n ≤ 3) (y0 : 0 ≤ y) (y1 : y < n) : (x * n + y) / n = x ∧ (x * n + y) % n = y := by
  rcases (show n = 1 ∨ n = 2 ∨ n = 3 by omega) with e | e | e <;> subst e <;> omega
theorem nn9 {n : Int} (n0 : 1 ≤ n) (n1 : n ≤ 3) : n ≤ n * n ∧ n * n ≤ 9 := by
  rcases (show n = 1 ∨ n = 2 ∨ n = 3 by omega) with e | e | e <;> subst e <;> omega
theorem xn9 {n x : Int} (n0 : 1 ≤ n) (n1 : n ≤ 3) (x0 : 0 ≤ x) (x1 : x < n) : 0 ≤ x * n ∧ x * n + n ≤ n * n ∧ (x + 1) * n = x * n + n ∧ n * n ≤ 9 := by
  rcases (show n = 1 ∨ n = 2 ∨ n = 3 by omega) with e | e | e <;> subst e <;> omega
section READ
variable {c : Int} {g h r g0 r0 : GI}
theorem Iv_enter {a b d v : Int} (a0 : 0 ≤ a) (a1 : a < 4) (b0 : 0 ≤ b) (b1 : b < 3) (c0 : 0 ≤ d) (c1 : d < 3) (v0 : -1 ≤ v) (v1 : v ≤ 999) (hI : Iv c g h r) : Iv c (gset g 9 0 (a * 9 + b * 3 + d) v) (gset h 26 0 (288 + 9 * a + 3 * b + d) v) r := by
  obtain ⟨⟨hS, hR, h6, hP⟩, hsg, htx, hru, hwd, hnw, hst, hsh, hla⟩ := hI
  exact ⟨⟨hS, hR, h6, hP⟩, Isg_c (g := g) (h := h) rfl rfl hsg, Itx_c (g := g) (h := h) rfl rfl rfl rfl htx, Iru_c (g := g) (h := h) (r := r) (by omega) hR (fun _ _ _ => rfl) (fun _ _ _ => rfl) rfl rfl rfl rfl rfl rfl rfl rfl hru, Iwd_c (g := g) (h := h) (by omega) rfl rfl rfl rfl rfl rfl hwd, Inw_set a0 a1 b0 b1 c0 c1 v0 v1 hnw,
    Ist_c (g := g) (h := h) (r := r) hR rfl rfl (fun _ _ _ => rfl) (fun q s z => (gset_i (by omega))) rfl rfl rfl rfl (fun _ _ => rfl) (fun _ _ => rfl) (fun q z => (gset_s (by omega))) rfl rfl rfl hst, Ish_c (g := g) (h := h) rfl rfl rfl rfl rfl hsh, Ila_c (g := g) (h := h) rfl rfl hla⟩
theorem Iv_find {f : Int} (hI : Iv c g h r) : Iv c (gset g 7 0 13 f) (gset h 8 0 4 f) r := by
  obtain ⟨⟨hS, hR, h6, hP⟩, hsg, htx, hru, hwd, hnw, hst, hsh, hla⟩ := hI
  exact ⟨⟨hS, hR, h6, hP⟩, Isg_c (g := g) (h := h) rfl rfl hsg, Itx_c (g := g) (h := h) rfl rfl rfl rfl htx, Iru_c (g := g) (h := h) (r := r) (by omega) hR (fun _ _ _ => rfl) (fun _ _ _ => rfl) rfl rfl rfl rfl rfl rfl rfl rfl hru, Iwd_c (g := g) (h := h) (by omega) rfl rfl rfl rfl rfl rfl hwd, Inw_c (g := g) (h := h) rfl rfl rfl rfl (fun _ _ _ => rfl) hnw,
    Ist_c (g := g) (h := h) (r := r) hR rfl rfl (fun _ _ _ => rfl) (fun _ _ _ => rfl) rfl rfl rfl rfl (fun _ _ => rfl) (fun _ _ => rfl) (fun _ _ => rfl) rfl rfl rfl hst, Ish_c (g := g) (h := h) rfl rfl rfl rfl rfl hsh, rfl⟩
noncomputable def rdV (h : GI) (a p : Int) : Int := cif ((0 ≤ a ∧ a < h 8 0 5) ∧ (0 ≤ p ∧ p < 4)) (cif (h 17 0 p = -1) (-11) (rdc h p)) (-2)
noncomputable def RdH (h : GI) (a p : Int) : GI := cif ((0 ≤ a ∧ a < h 8 0 5) ∧ (0 ≤ p ∧ p < 4)) (cif (h 17 0 p = -1) (gset h 8 0 4 1) (Rdf h a p (h 28 0 8) (rdc h p).toNat)) h
/-- where the reading ends -/
theorem rd_end {p j : Int} (n0 : 1 ≤ h 28 0 8) (n1 : h 28 0 8 ≤ 3) (j0 : 0 ≤ j) (hs : j ≤ h 18 0 p) (hn : j ≤ h 28 0 8 * h 28 0 8) (no : ∀ i, 0 ≤ i → i < j → ¬ bad h p i) (e : j = h 28 0 8 * h 28 0 8 ∨ j = h 18 0 p ∨ bad h p j) : rdc h p = j := by
  have hl := rdL_s h p
  refine fi_eq j0 no ?_
  by_cases q : j = rdL h p
  · exact Or.inl ⟨by omega, q.symm⟩
  · refine Or.inr ⟨by omega, ?_⟩
    rcases e with e | e | e
    · omega
    · omega
    · exact e
theorem l7_rdi {a p : Int} (a0 : 0 ≤ a) (a1 : a < 4) (p0 : 0 ≤ p) (p1 : p < 4) (n0 : 1 ≤ h 28 0 8) (n1 : h 28 0 8 ≤ 3) {x s : Int} (x0 : 0 ≤ x) (x1 : x < h 28 0 8) (es : s = x * h 28 0 8) : ∀ (m : Nat) (y : Int) (g1 : GI), (0 ≤ y) → (y + m = h 28 0 8) → (Fm g g1) → (Iv c g1 (Rdf h a p (h 28 0 8) (s + y).toNat) r) → (s + y ≤ h 18 0 p) → (∀ i, 0 ≤ i → i < s + y → ¬ bad h p i) → (∀ t g1, Fm g g1 → Iv c g1 (Rdf h a p (h 28 0 8) (s + h 28 0 8).toNat) r → s + h 28 0 8 ≤ h 18 0 p → (∀ i, 0 ≤ i → i < s + h 28 0 8 → ¬ bad h p i) → Ou 57 125 [vR 7 0, vI a, vI p, vR 3 p, vI (s + h 28 0 8), vI x, t] [] g1 r (fun x g2 r2 => x = some (vI (rdc h p)) ∧ Fm g g2 ∧ Iv (c + 1) g2 (Rdf h a p (h 28 0 8) (rdc h p).toNat) r2)) → Ou 57 60 [vR 7 0, vI a, vI p, vR 3 p, vI (s + y), vI x, vI y] [] g1 r (fun x g2 r2 => x = some (vI (rdc h p)) ∧ Fm g g2 ∧ Iv (c + 1) g2 (Rdf h a p (h 28 0 8) (rdc h p).toNat) r2) := by
  intro m
  induction m with
  | zero =>
    intro y g1 i0 i1 fm hI i2 no kQ
    have hx := xn9 n0 n1 x0 x1
    rw [← es] at hx
    obtain ⟨⟨hS, hR, h6, hP⟩, hsg, htx, hru, hwd, hnw, hst, hsh, hla⟩ := id hI
    have ek : ∀ k, k ≠ 26 → Rdf h a p (h 28 0 8) (s + y).toNat k = h k := fun k e => Rdf_k e _
    have e1 : g1 0 0 1 = h 28 0 8 := by have := hnw.1.2.1; rw [ek 28 (by decide)] at this; exact this
    have hsp := hsh p p0 p1
    rw [ek 17 (by decide), ek 18 (by decide), ek 19 (by decide)] at hsp
    have hy : y = h 28 0 8 := by omega
    subst hy
    refine o_iload (n := 62) rfl rfl rfl ?_
    refine o_aload_n (n := 63) rfl rfl rfl ?_
    refine of_7_5 (n := 66) hS rfl rfl ?_
    refine o_geti (n := 69) rfl rfl rfl (ok_0 (by omega) (by omega)) rfl ?_
    refine o_icmp_ge (n := 72) (t := 125) rfl rfl rfl (fun q69 => ?_) (fun q69 => (by exfalso; omega))
    exact kQ _ g1 fm hI i2 no
  | succ m ih =>
    intro y g1 i0 i1 fm hI i2 no kQ
    have hx := xn9 n0 n1 x0 x1
    rw [← es] at hx
    obtain ⟨⟨hS, hR, h6, hP⟩, hsg, htx, hru, hwd, hnw, hst, hsh, hla⟩ := id hI
    have ek : ∀ k, k ≠ 26 → Rdf h a p (h 28 0 8) (s + y).toNat k = h k := fun k e => Rdf_k e _
    have e1 : g1 0 0 1 = h 28 0 8 := by have := hnw.1.2.1; rw [ek 28 (by decide)] at this; exact this
    have hsp := hsh p p0 p1
    rw [ek 17 (by decide), ek 18 (by decide), ek 19 (by decide)] at hsp
    refine o_iload (n := 62) rfl rfl rfl ?_
    refine o_aload_n (n := 63) rfl rfl rfl ?_
    refine of_7_5 (n := 66) hS rfl rfl ?_
    refine o_geti (n := 69) rfl rfl rfl (ok_0 (by omega) (by omega)) rfl ?_
    refine o_icmp_ge (n := 72) (t := 125) rfl rfl rfl (fun q69 => (by exfalso; omega)) (fun q69 => ?_)
    refine o_iload (n := 74) rfl rfl rfl ?_
    refine o_aload_n (n := 75) rfl rfl rfl ?_
    refine o_geti (n := 78) rfl rfl rfl (ok_3 (by omega) (by omega)) rfl ?_
    refine o_icmp_ge (n := 81) (t := 94) rfl rfl rfl (fun q78 => ?_) (fun q78 => ?_)
    · refine o_iload (n := 96) rfl rfl rfl ?_
      refine o_iret rfl rfl ?_
      have er : rdc h p = s + y := rd_end n0 n1 (by omega) i2 (by omega) no (by
        first
          | exact Or.inr (Or.inl (by omega))
          | exact Or.inr (Or.inr (by assumption)))
      rw [er]
      exact ⟨rfl, fm, Iv_1 hI⟩
    · refine o_aload_n (n := 82) rfl rfl rfl ?_
      refine of_3_2 (n := 85) hS rfl rfl (by omega) (by omega) ?_
      refine o_iload (n := 87) rfl rfl rfl ?_
      refine o_iald (n := 88) (L := 60) rfl rfl (ok_11 (by omega) (by omega)) rfl rfl (by omega) (by omega) ?_
      have hit := hsp.2.2 (s + y) (by omega) (by omega)
      rw [hit]
      refine o_invsi (n := 91) rfl rfl rfl rfl rfl rfl (c7_isEntry _) ?_
      refine o_ifb_ne (n := 94) (t := 97) rfl rfl rfl (fun q91 => ?_) (fun q91 => ?_)
      · refine o_aload_n (n := 98) rfl rfl rfl ?_
        refine of_7_5 (n := 101) hS rfl rfl ?_
        refine o_iload_n (n := 102) rfl rfl rfl ?_
        refine o_iload (n := 104) rfl rfl rfl ?_
        refine o_iload (n := 106) rfl rfl rfl ?_
        refine o_aload_n (n := 107) rfl rfl rfl ?_
        refine of_3_2 (n := 110) hS rfl rfl (by omega) (by omega) ?_
        refine o_iload (n := 112) rfl rfl rfl ?_
        refine o_iald (n := 113) (L := 60) rfl rfl (ok_11 (by omega) (by omega)) rfl rfl (by omega) (by omega) ?_
        have hgood : -1 ≤ itm h p (s + y) ∧ itm h p (s + y) ≤ 999 := by assumption
        rw [hit]
        refine o_invv (n := 116) rfl rfl rfl rfl rfl rfl rfl rfl rfl (ok_0 (by omega) (by omega)) (c0_tell hS _ _ _ _ _ (by omega) (by omega) (by omega) (by omega) (by omega) (by omega) (by omega) (by omega)) ?_
        refine o_iinc_4 (n := 119) rfl rfl rfl (by omega) ?_
        refine o_iinc_6 (n := 122) rfl rfl rfl (by omega) ?_
        refine o_goto (t := 60) rfl rfl ?_
        have hd := dm (x := x) (y := y) n0 n1 i0 (by omega)
        rw [← es] at hd
        have hI2 := Iv_enter a0 a1 x0 (show x < 3 by omega) i0 (show y < 3 by omega) hgood.1 hgood.2 hI
        have er : gset (Rdf h a p (h 28 0 8) (s + y).toNat) 26 0 (288 + 9 * a + 3 * x + y) (itm h p (s + y)) = Rdf h a p (h 28 0 8) (s + (y + 1)).toNat := by
          rw [show (s + (y + 1)).toNat = (s + y).toNat + 1 by omega]
          show _ = gset _ 26 0 (288 + 9 * a + 3 * (((s + y).toNat : Int) / h 28 0 8) + ((s + y).toNat : Int) % h 28 0 8) (itm h p ((s + y).toNat : Int))
          rw [show (((s + y).toNat : Nat) : Int) = s + y by omega, hd.1, hd.2]
        rw [er] at hI2
        rw [show s + y + 1 = s + (y + 1) by omega]
        refine ih (y + 1) _ (by omega) (by omega) (Fm_tr fm (fun k hk => gset_kf (by unfold isM at hk; omega))) hI2 (by omega) (fun i a b => ?_) kQ
        by_cases q : i = s + y
        · rw [q]; exact fun z => z hgood
        · exact no i a (by omega)
      · refine o_iload (n := 96) rfl rfl rfl ?_
        refine o_iret rfl rfl ?_
        have er : rdc h p = s + y := rd_end n0 n1 (by omega) i2 (by omega) no (by
          first
            | exact Or.inr (Or.inl (by omega))
            | exact Or.inr (Or.inr (by assumption)))
        rw [er]
        exact ⟨rfl, fm, Iv_1 hI⟩
theorem l7_rdo {a p : Int} (a0 : 0 ≤ a) (a1 : a < 4) (p0 : 0 ≤ p) (p1 : p < 4) (n0 : 1 ≤ h 28 0 8) (n1 : h 28 0 8 ≤ 3) : ∀ (m : Nat) (x s : Int) (t : AV) (g1 : GI), (0 ≤ x) → (x + m = h 28 0 8) → (s = x * h 28 0 8) → (Fm g g1) → (Iv c g1 (Rdf h a p (h 28 0 8) s.toNat) r) → (s ≤ h 18 0 p) → (∀ i, 0 ≤ i → i < s → ¬ bad h p i) → Ou 57 45 [vR 7 0, vI a, vI p, vR 3 p, vI s, vI x, t] [] g1 r (fun x g2 r2 => x = some (vI (rdc h p)) ∧ Fm g g2 ∧ Iv (c + 1) g2 (Rdf h a p (h 28 0 8) (rdc h p).toNat) r2) := by
  intro m
  induction m with
  | zero =>
    intro x s t g1 i0 i1 es fm hI i2 no
    obtain ⟨⟨hS, hR, h6, hP⟩, hsg, htx, hru, hwd, hnw, hst, hsh, hla⟩ := id hI
    have ek : ∀ k, k ≠ 26 → Rdf h a p (h 28 0 8) s.toNat k = h k := fun k e => Rdf_k e _
    have e1 : g1 0 0 1 = h 28 0 8 := by have := hnw.1.2.1; rw [ek 28 (by decide)] at this; exact this
    have hsp := hsh p p0 p1
    rw [ek 17 (by decide), ek 18 (by decide), ek 19 (by decide)] at hsp
    have hx : x = h 28 0 8 := by omega
    subst hx
    have h9 := nn9 n0 n1
    refine o_iload (n := 47) rfl rfl rfl ?_
    refine o_aload_n (n := 48) rfl rfl rfl ?_
    refine of_7_5 (n := 51) hS rfl rfl ?_
    refine o_geti (n := 54) rfl rfl rfl (ok_0 (by omega) (by omega)) rfl ?_
    refine o_icmp_ge (n := 57) (t := 131) rfl rfl rfl (fun q54 => ?_) (fun q54 => (by exfalso; omega))
    refine o_iload (n := 133) rfl rfl rfl ?_
    refine o_iret rfl rfl ?_
    have er : rdc h p = s := rd_end n0 n1 (by omega) i2 (by omega) no (Or.inl es)
    rw [er]
    exact ⟨rfl, fm, Iv_1 hI⟩
  | succ m ih =>
    intro x s t g1 i0 i1 es fm hI i2 no
    obtain ⟨⟨hS, hR, h6, hP⟩, hsg, htx, hru, hwd, hnw, hst, hsh, hla⟩ := id hI
    have ek : ∀ k, k ≠ 26 → Rdf h a p (h 28 0 8) s.toNat k = h k := fun k e => Rdf_k e _
    have e1 : g1 0 0 1 = h 28 0 8 := by have := hnw.1.2.1; rw [ek 28 (by decide)] at this; exact this
    have hsp := hsh p p0 p1
    rw [ek 17 (by decide), ek 18 (by decide), ek 19 (by decide)] at hsp
    have hx := xn9 n0 n1 i0 (show x < h 28 0 8 by omega)
    refine o_iload (n := 47) rfl rfl rfl ?_
    refine o_aload_n (n := 48) rfl rfl rfl ?_
    refine of_7_5 (n := 51) hS rfl rfl ?_
    refine o_geti (n := 54) rfl rfl rfl (ok_0 (by omega) (by omega)) rfl ?_
    refine o_icmp_ge (n := 57) (t := 131) rfl rfl rfl (fun q54 => (by exfalso; omega)) (fun q54 => ?_)
    refine o_iconst (n := 58) rfl rfl ?_
    refine o_istore_6 (n := 60) rfl rfl rfl ?_
    have L := l7_rdi (c := c) (g := g) (r := r) a0 a1 p0 p1 n0 n1 i0 (show x < h 28 0 8 by omega) es (h 28 0 8).toNat 0 g1 (by omega) (by omega) fm (by rw [Int.add_zero]; exact hI) (by omega) (by rw [Int.add_zero]; exact no) (fun t g1 fm hI i2 no => ?_)
    · rw [Int.add_zero] at L; exact L
    refine o_iinc_5 (n := 128) rfl rfl rfl (by omega) ?_
    refine o_goto (t := 45) rfl rfl ?_
    exact ih (x + 1) _ _ g1 (by omega) (by omega) (by rw [hx.2.2.1, es]) fm hI i2 no
theorem c7_read (a p : Int) (hI : Iv c g h r) : Ou 57 0 (am_ini 57 [vR 7 0, vI a, vI p]) [] g r (fun x g1 r1 => x = some (vI (rdV h a p)) ∧ Fm g g1 ∧ Iv (c + 1) g1 (RdH h a p) r1) := by
  show Ou 57 0 [vR 7 0, vI a, vI p, vN, vN, vN, vN] [] g r _
  obtain ⟨⟨hS, hR, h6, hP⟩, hsg, htx, hru, hwd, hnw, hst, hsh, hla⟩ := id hI
  obtain ⟨sg1, sg2, sg3⟩ := hI.2.1
  obtain ⟨tx1, tx2, tx3, tx4⟩ := hI.2.2.1
  have ru0 : g 7 0 10 = h 8 0 8 := hI.2.2.2.1.1.1
  have ru1 := hI.2.2.2.1.2.1.1
  have wd0 : g 1 0 1 = h 8 0 14 := hI.2.2.2.2.1.1.1
  have wd1 := hI.2.2.2.2.1.2.1.1
  have wd2 := hI.2.2.2.2.1.2.2
  have nw0 : g 0 0 0 = h 27 0 8 := hI.2.2.2.2.2.1.1.1
  have nw1 : g 0 0 1 = h 28 0 8 := hI.2.2.2.2.2.1.1.2.1
  have nw2 := hI.2.2.2.2.2.1.2.1
  have nw3 := hI.2.2.2.2.2.1.2.2.1
  have st0 := hI.2.2.2.2.2.2.1.1
  have st1 := hI.2.2.2.2.2.2.1.2.1
  have st2 := hI.2.2.2.2.2.2.1.2.2.1
  have la0 : g 7 0 13 = h 8 0 4 := hI.2.2.2.2.2.2.2.2
  refine o_aload_n (n := 1) rfl rfl rfl ?_
  refine o_iload_n (n := 2) rfl rfl rfl ?_
  refine o_invi (n := 5) rfl rfl rfl rfl rfl rfl rfl rfl rfl rfl (c7_isSign _) ?_
  refine o_ifb_eq (n := 8) (t := 15) rfl rfl rfl (fun q5 => ?_) (fun q5 => ?_)
  · refine o_bipush (n := 17) rfl rfl ?_
    refine o_iret rfl rfl ?_
    first
      | (exfalso; omega; done)
      | (have hsp := hsh p (by omega) (by omega)
         have h17 : h 17 0 p = -1 := by omega
         refine ⟨?_, fun k hk => gset_kf (by unfold isM at hk; omega), ?_⟩
         · unfold rdV; rw [cif_t (by omega), cif_t h17]; rfl
         · unfold RdH; rw [cif_t (by omega), cif_t h17]; exact Iv_1 (Iv_find hI))
      | (refine ⟨?_, Fm_refl g, ?_⟩
         · unfold rdV; rw [cif_f (by omega)]
         · unfold RdH; rw [cif_f (by omega)]; exact Iv_1 hI)
  · refine o_iload_n (n := 9) rfl rfl rfl ?_
    refine o_invsi (n := 12) rfl rfl rfl rfl rfl rfl (c7_isSheet _) ?_
    refine o_ifb_ne (n := 15) (t := 18) rfl rfl rfl (fun q12 => ?_) (fun q12 => ?_)
    · refine o_aload_n (n := 19) rfl rfl rfl ?_
      refine of_7_4 (n := 22) hS rfl rfl ?_
      refine o_iload_n (n := 23) rfl rfl rfl ?_
      refine o_shr (n := 24) hS rfl rfl (by omega) (by omega) ?_
      refine o_astore_3 (n := 25) rfl rfl rfl ?_
      refine o_aload_n (n := 26) rfl rfl rfl ?_
      refine o_geti (n := 29) rfl rfl rfl (ok_3 (by omega) (by omega)) rfl ?_
      refine o_iconst (n := 30) rfl rfl ?_
      refine o_icmp_ne (n := 33) (t := 39) rfl rfl rfl (fun q30 => ?_) (fun q30 => ?_)
      · refine o_iconst (n := 40) rfl rfl ?_
        refine o_istore_4 (n := 42) rfl rfl rfl ?_
        refine o_iconst (n := 43) rfl rfl ?_
        refine o_istore_5 (n := 45) rfl rfl rfl ?_
        have hsp := hsh p (by omega) (by omega)
        have h17 : ¬ h 17 0 p = -1 := by omega
        obtain ⟨n9, v9, g9, r9, w1, w2, w3, w4⟩ := l7_rdo (c := c) (g := g) (h := h) (r := r) (a := a) (p := p) (by omega) (by omega) (by omega) (by omega) (by omega) (by omega) (h 28 0 8).toNat 0 0 _ g (by omega) (by omega) (by omega) (Fm_refl g) hI (by omega) (fun i a b => by omega)
        refine ⟨n9, v9, g9, r9, w1, ?_, w3, ?_⟩
        · unfold rdV; rw [cif_t (by omega), cif_f h17]; exact w2
        · unfold RdH; rw [cif_t (by omega), cif_f h17]; exact w4
      · refine o_aload_n (n := 34) rfl rfl rfl ?_
        refine o_iconst (n := 35) rfl rfl ?_
        refine o_invi (n := 38) rfl rfl rfl rfl rfl rfl rfl rfl rfl rfl (c7_found _ (by omega) (by omega)) ?_
        refine o_iret rfl rfl ?_
        first
          | (exfalso; omega; done)
          | (have hsp := hsh p (by omega) (by omega)
             have h17 : h 17 0 p = -1 := by omega
             refine ⟨?_, fun k hk => gset_kf (by unfold isM at hk; omega), ?_⟩
             · unfold rdV; rw [cif_t (by omega), cif_t h17]; rfl
             · unfold RdH; rw [cif_t (by omega), cif_t h17]; exact Iv_1 (Iv_find hI))
          | (refine ⟨?_, Fm_refl g, ?_⟩
             · unfold rdV; rw [cif_f (by omega)]
             · unfold RdH; rw [cif_f (by omega)]; exact Iv_1 hI)
    · refine o_bipush (n := 17) rfl rfl ?_
      refine o_iret rfl rfl ?_
      first
        | (exfalso; omega; done)
        | (have hsp := hsh p (by omega) (by omega)
           have h17 : h 17 0 p = -1 := by omega
           refine ⟨?_, fun k hk => gset_kf (by unfold isM at hk; omega), ?_⟩
           · unfold rdV; rw [cif_t (by omega), cif_t h17]; rfl
           · unfold RdH; rw [cif_t (by omega), cif_t h17]; exact Iv_1 (Iv_find hI))
        | (refine ⟨?_, Fm_refl g, ?_⟩
           · unfold rdV; rw [cif_f (by omega)]
           · unfold RdH; rw [cif_f (by omega)]; exact Iv_1 hI)
end READ
