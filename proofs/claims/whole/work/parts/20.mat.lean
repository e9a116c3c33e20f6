/-! values: the reference's matrices. Written by wip/gen/gen20.py -/
/-- what a reading tells: ring, size, entries; the reference's slot d, the component's object e -/
def Vr8 (g : GI) (d ρ n : Int) (E : Int → Int → Int → Int) : Prop := g 27 0 d = ρ ∧ g 28 0 d = n ∧ ∀ s z y, 0 ≤ s → s < 4 → 0 ≤ z → z < 3 → 0 ≤ y → y < 3 → g 26 0 (36 * d + 9 * s + 3 * z + y) = E s z y
def Vr7 (g : GI) (e ρ n : Int) (E : Int → Int → Int → Int) : Prop := g 0 e 0 = ρ ∧ g 0 e 1 = n ∧ ∀ s z y, 0 ≤ s → s < 4 → 0 ≤ z → z < 3 → 0 ≤ y → y < 3 → g 9 e (s * 9 + y + z * 3) = E s z y
def Br (ρ n : Int) (E : Int → Int → Int → Int) : Prop := (0 ≤ ρ ∧ ρ ≤ 2) ∧ (1 ≤ n ∧ n ≤ 3) ∧ ∀ s z y, 0 ≤ s → s < 4 → 0 ≤ z → z < 3 → 0 ≤ y → y < 3 → -1 ≤ E s z y ∧ E s z y ≤ 999
/-- a row of signs -/
def Vw (g : GI) (K : Nat) (off len : Int) (w : Int → Int) : Prop := ∀ k, 0 ≤ k → k < len → g K 0 (off + k) = w k
def Bw (len : Int) (w : Int → Int) : Prop := (0 ≤ len ∧ len ≤ 24) ∧ ∀ k, 0 ≤ k → k < len → 0 ≤ w k ∧ w k < 4
def F9 (g g' : GI) : Prop := ∀ k, k ≠ 30 → k ≠ 31 → g' k = g k
theorem F9_refl (g : GI) : F9 g g := fun _ _ _ => rfl
theorem F9_tr {g g1 g2 : GI} (a : F9 g g1) (b : F9 g1 g2) : F9 g g2 := fun k h1 h2 => (b k h1 h2).trans (a k h1 h2)
theorem F9_set {g g1 : GI} {K : Nat} {i s v : Int} (hK : K = 30 ∨ K = 31) (a : F9 g g1) : F9 g (gset g1 K i s v) := fun k h1 h2 => (gset_kf (by omega)).trans (a k h1 h2)
theorem Vr8_F {g g' : GI} {d ρ n : Int} {E : Int → Int → Int → Int} (f : F9 g g') (h : Vr8 g d ρ n E) : Vr8 g' d ρ n E := by
  unfold Vr8
  rw [f 27 (by decide) (by decide), f 28 (by decide) (by decide), f 26 (by decide) (by decide)]
  exact h
theorem Vw_F {g g' : GI} {K : Nat} {off len : Int} {w : Int → Int} (hK : K = 22 ∨ K = 25) (f : F9 g g') (h : Vw g K off len w) : Vw g' K off len w := by
  unfold Vw
  rw [f K (by omega) (by omega)]
  exact h
theorem vo_s {ρ n : Int} {E : Int → Int → Int → Int} {w : Int → Int} {k : Nat} : vo ρ n E w (k + 1) ↔ vo ρ n E w k ∨ ov ρ n (mt ρ n E w (k + 1)) := by
  constructor
  · rintro ⟨j, h1, h2⟩
    by_cases e : j = k
    · subst e; exact Or.inr h2
    · exact Or.inl ⟨j, by omega, h2⟩
  · rintro (⟨j, h1, h2⟩ | h)
    · exact ⟨j, by omega, h2⟩
    · exact ⟨k, by omega, h⟩
theorem vo_mono {ρ n : Int} {E : Int → Int → Int → Int} {w : Int → Int} {j k : Nat} (h : j ≤ k) (v : vo ρ n E w j) : vo ρ n E w k := by
  obtain ⟨i, h1, h2⟩ := v
  exact ⟨i, by omega, h2⟩
theorem mt_b {ρ n : Int} {E : Int → Int → Int → Int} {w : Int → Int} {len : Int} (hb : Br ρ n E) (hw : Bw len w) : ∀ (k : Nat), (k : Int) ≤ len → ¬ vo ρ n E w k → ∀ x y, 0 ≤ x → x < n → 0 ≤ y → y < n → (ρ = 0 → 0 ≤ mt ρ n E w k x y ∧ mt ρ n E w k x y ≤ 2147483647) ∧ (ρ ≠ 0 → -1 ≤ mt ρ n E w k x y ∧ mt ρ n E w k x y ≤ 999 * k)
  | 0, _, _, x, y, _, _, _, _ => by
    unfold mt
    by_cases h1 : x = y <;> by_cases h2 : ρ = 0 <;> simp only [cif_t, cif_f, h1, h2, not_false_eq_true, ne_eq] <;> (constructor <;> intro h3 <;> first | exact h3.elim | omega | exact absurd trivial h3 | exact absurd rfl h3)
  | k + 1, hk, hv, x, y, hx, hx1, hy, hy1 => by
    have hv' : ¬ vo ρ n E w k := fun z => hv (vo_s.mpr (Or.inl z))
    have ho : ¬ ov ρ n (mt ρ n E w (k + 1)) := fun z => hv (vo_s.mpr (Or.inr z))
    have ih := mt_b hb hw k (by omega) hv'
    obtain ⟨hρ, ⟨hn0, hn1⟩, hE⟩ := hb
    have hs := hw.2 k (by omega) (by omega)
    constructor
    · intro hz
      have h1 : 0 ≤ cl ρ n (mt ρ n E w k) (E (w k)) x y := by
        unfold cl
        rw [cif_t hz]
        subst hz
        refine (clp_b0 (z := 0) (acc := 0) (by omega) (by omega) (by omega) (fun j a b => ?_)).1
        have h2 := (ih x j hx hx1 (by omega) (by omega)).1 rfl
        have h3 := hE (w k) j y hs.1 hs.2 (by omega) (by omega) (by omega) (by omega)
        exact ⟨h2.1, h2.2, h3.1, h3.2⟩
      refine ⟨h1, ?_⟩
      by_cases c : mt ρ n E w (k + 1) x y ≤ 2147483647
      · exact c
      · exact absurd ⟨hz, x, y, hx, hx1, hy, hy1, by omega⟩ ho
    · intro hz
      have h1 : -1 ≤ cl ρ n (mt ρ n E w k) (E (w k)) x y ∧ cl ρ n (mt ρ n E w k) (E (w k)) x y ≤ 999 * k + 999 := by
        unfold cl
        rw [cif_f hz]
        refine clp_b1 hz (C := 999 * (k : Int)) (by omega) (by omega) (by omega) (fun j a b => ?_)
        have h2 := (ih x j hx hx1 (by omega) (by omega)).2 hz
        have h3 := hE (w k) j y hs.1 hs.2 (by omega) (by omega) (by omega) (by omega)
        exact ⟨h2.1, h2.2, h3.1, h3.2⟩
      refine ⟨h1.1, ?_⟩
      have h2 := h1.2
      show cl ρ n (mt ρ n E w k) (E (w k)) x y ≤ 999 * ((k + 1 : Nat) : Int)
      omega
theorem dv {n k : Int} (h0 : 1 ≤ n) (h1 : n ≤ 3) (h2 : 0 ≤ k) (h3 : k < n * n) : 0 ≤ k / n ∧ k / n < n ∧ 0 ≤ k % n ∧ k % n < n := by
  have h : n = 1 ∨ n = 2 ∨ n = 3 := by omega
  rcases h with h | h | h <;> subst h <;> omega
theorem dv_i {n j k : Int} (h0 : 1 ≤ n) (h1 : n ≤ 3) (a0 : 0 ≤ j) (a1 : j < n * n) (h2 : 0 ≤ k) (h3 : k < n * n) (h : 3 * (j / n) + j % n = 3 * (k / n) + k % n) : j = k := by
  have h4 : n = 1 ∨ n = 2 ∨ n = 3 := by omega
  rcases h4 with e | e | e <;> subst e <;> omega
theorem dv_x {n x y : Int} (h0 : 1 ≤ n) (h1 : n ≤ 3) (a0 : 0 ≤ x) (a1 : x < n) (h2 : 0 ≤ y) (h3 : y < n) : 0 ≤ n * x + y ∧ n * x + y < n * n ∧ (n * x + y) / n = x ∧ (n * x + y) % n = y := by
  have h4 : n = 1 ∨ n = 2 ∨ n = 3 := by omega
  rcases h4 with e | e | e <;> subst e <;> omega
theorem nn_b {n : Int} (h0 : 1 ≤ n) (h1 : n ≤ 3) : 1 ≤ n * n ∧ n * n ≤ 9 := by
  have h4 : n = 1 ∨ n = 2 ∨ n = 3 := by omega
  rcases h4 with e | e | e <;> subst e <;> omega
noncomputable def idv (ρ j : Int) : Int := cif (j % 4 = 0) (cif (ρ = 0) 1 0) (cif (ρ = 0) 0 (-1))
section MAT
variable {g r : GI} {ρ n d off len : Int} {E : Int → Int → Int → Int} {w : Int → Int} {Q : Option AV → GI → GI → Prop}
theorem l8_idn_s (hS : am_St r) (hd : 0 ≤ d) (hd1 : d < 9) (hb : Br ρ n E) (hw : Bw len w) (hV : Vr8 g d ρ n E) (hW : Vw g 22 off len w) (ho : 0 ≤ off) (ho1 : off + len ≤ 96) : ∀ (m : Nat) (k : Int) (g1 : GI), 0 ≤ k → k + m = 9 → F9 g g1 → (∀ j, 0 ≤ j → j < k → g1 30 0 j = idv ρ j) → (∀ g1, F9 g g1 → (∀ j, 0 ≤ j → j < 9 → g1 30 0 j = idv ρ j) → Ou 137 71 [vR 8 0, vI d, vR 22 0, vI off, vI len, vI n, vI 9, vN, vN, vN] [] g1 r Q) → Ou 137 11 [vR 8 0, vI d, vR 22 0, vI off, vI len, vI n, vI k, vN, vN, vN] [] g1 r Q := by
  intro m
  induction m with
  | zero =>
    intro k g1 i0 i1 f i2 hQ
    have hk : k = 9 := by omega
    subst hk
    refine o_iload (n := 13) rfl rfl rfl ?_
    refine o_bipush (n := 15) rfl rfl ?_
    refine o_icmp_ge (n := 18) (t := 71) rfl rfl rfl (fun h15 => ?_) (fun h15 => (by exfalso; omega))
    exact hQ g1 f i2
  | succ m ih =>
    intro k g1 i0 i1 f i2 hQ
    obtain ⟨e27, e28, e26⟩ := Vr8_F f hV
    refine o_iload (n := 13) rfl rfl rfl ?_
    refine o_bipush (n := 15) rfl rfl ?_
    refine o_icmp_ge (n := 18) (t := 71) rfl rfl rfl (fun h15 => (by exfalso; omega)) (fun h15 => ?_)
    refine o_aload_n (n := 19) rfl rfl rfl ?_
    refine of_8_21 (n := 22) hS rfl rfl ?_
    refine o_iload (n := 24) rfl rfl rfl ?_
    refine o_iload (n := 26) rfl rfl rfl ?_
    refine o_iconst (n := 27) rfl rfl ?_
    refine o_irem (n := 28) rfl rfl (by omega) ?_
    refine o_if_ne (n := 31) (t := 48) rfl rfl rfl (fun h28 => ?_) (fun h28 => ?_)
    · refine o_aload_n (n := 49) rfl rfl rfl ?_
      refine of_8_17 (n := 52) hS rfl rfl ?_
      refine o_iload_n (n := 53) rfl rfl rfl ?_
      refine o_iald (n := 54) (L := 9) rfl rfl rfl rfl rfl (by omega) (by omega) ?_
      refine o_if_ne (n := 57) (t := 61) rfl rfl rfl (fun h54 => ?_) (fun h54 => ?_)
      · refine o_ldc2_w (n := 64) rfl rfl ?_
        refine o_last (n := 65) (L := 9) rfl rfl rfl rfl rfl (by omega) (by omega) ?_
        refine o_iinc_6 (n := 68) rfl rfl rfl (by omega) ?_
        refine o_goto (t := 11) rfl rfl ?_
        refine ih (k + 1) _ (by omega) (by omega) (F9_set (Or.inl rfl) f) (fun j a b => ?_) hQ
        by_cases e : j = k
        · subst e
          rw [gset_at]
          unfold idv
          first | (rw [cif_t (by omega), cif_t (by omega)]) | (rw [cif_t (by omega), cif_f (by omega)]) | (rw [cif_f (by omega), cif_t (by omega)]) | (rw [cif_f (by omega), cif_f (by omega)])
        · rw [gset_s e]; exact i2 j a (by omega)
      · refine o_lconst (n := 58) rfl rfl ?_
        refine o_goto (t := 64) rfl rfl ?_
        refine o_last (n := 65) (L := 9) rfl rfl rfl rfl rfl (by omega) (by omega) ?_
        refine o_iinc_6 (n := 68) rfl rfl rfl (by omega) ?_
        refine o_goto (t := 11) rfl rfl ?_
        refine ih (k + 1) _ (by omega) (by omega) (F9_set (Or.inl rfl) f) (fun j a b => ?_) hQ
        by_cases e : j = k
        · subst e
          rw [gset_at]
          unfold idv
          first | (rw [cif_t (by omega), cif_t (by omega)]) | (rw [cif_t (by omega), cif_f (by omega)]) | (rw [cif_f (by omega), cif_t (by omega)]) | (rw [cif_f (by omega), cif_f (by omega)])
        · rw [gset_s e]; exact i2 j a (by omega)
    · refine o_aload_n (n := 32) rfl rfl rfl ?_
      refine of_8_17 (n := 35) hS rfl rfl ?_
      refine o_iload_n (n := 36) rfl rfl rfl ?_
      refine o_iald (n := 37) (L := 9) rfl rfl rfl rfl rfl (by omega) (by omega) ?_
      refine o_if_ne (n := 40) (t := 44) rfl rfl rfl (fun h37 => ?_) (fun h37 => ?_)
      · refine o_lconst (n := 45) rfl rfl ?_
        refine o_goto (t := 64) rfl rfl ?_
        refine o_last (n := 65) (L := 9) rfl rfl rfl rfl rfl (by omega) (by omega) ?_
        refine o_iinc_6 (n := 68) rfl rfl rfl (by omega) ?_
        refine o_goto (t := 11) rfl rfl ?_
        refine ih (k + 1) _ (by omega) (by omega) (F9_set (Or.inl rfl) f) (fun j a b => ?_) hQ
        by_cases e : j = k
        · subst e
          rw [gset_at]
          unfold idv
          first | (rw [cif_t (by omega), cif_t (by omega)]) | (rw [cif_t (by omega), cif_f (by omega)]) | (rw [cif_f (by omega), cif_t (by omega)]) | (rw [cif_f (by omega), cif_f (by omega)])
        · rw [gset_s e]; exact i2 j a (by omega)
      · refine o_lconst (n := 41) rfl rfl ?_
        refine o_goto (t := 64) rfl rfl ?_
        refine o_last (n := 65) (L := 9) rfl rfl rfl rfl rfl (by omega) (by omega) ?_
        refine o_iinc_6 (n := 68) rfl rfl rfl (by omega) ?_
        refine o_goto (t := 11) rfl rfl ?_
        refine ih (k + 1) _ (by omega) (by omega) (F9_set (Or.inl rfl) f) (fun j a b => ?_) hQ
        by_cases e : j = k
        · subst e
          rw [gset_at]
          unfold idv
          first | (rw [cif_t (by omega), cif_t (by omega)]) | (rw [cif_t (by omega), cif_f (by omega)]) | (rw [cif_f (by omega), cif_t (by omega)]) | (rw [cif_f (by omega), cif_f (by omega)])
        · rw [gset_s e]; exact i2 j a (by omega)
theorem l8_cells_s (hS : am_St r) (hd : 0 ≤ d) (hd1 : d < 9) (hb : Br ρ n E) (hw : Bw len w) (hV : Vr8 g d ρ n E) (hW : Vw g 22 off len w) (ho : 0 ≤ off) (ho1 : off + len ≤ 96) {M : Int → Int → Int} (hMb : ∀ x z, 0 ≤ x → x < n → 0 ≤ z → z < n → (ρ = 0 → 0 ≤ M x z ∧ M x z ≤ 2147483647) ∧ (ρ ≠ 0 → -1 ≤ M x z ∧ M x z ≤ 99999)) {q : Int} (hq0 : 0 ≤ q) (hq1 : q < len) : ∀ (m : Nat) (k b : Int) (t : AV) (g1 : GI), 0 ≤ k → k + m = n * n → F9 g g1 → (∀ x z, 0 ≤ x → x < n → 0 ≤ z → z < n → g1 30 0 (3 * x + z) = M x z) → (∀ j, 0 ≤ j → j < k → g1 31 0 (3 * (j / n) + j % n) = cl ρ n M (E (w q)) (j / n) (j % n)) → ((b = 1 ∧ ∀ j, 0 ≤ j → j < k → ¬ (ρ = 0 ∧ 2147483647 < cl ρ n M (E (w q)) (j / n) (j % n))) ∨ (b = 0 ∧ ρ = 0 ∧ ∃ j, 0 ≤ j ∧ j < k ∧ 2147483647 < cl ρ n M (E (w q)) (j / n) (j % n))) → (∀ k b t g1, k = n * n → F9 g g1 → (∀ x z, 0 ≤ x → x < n → 0 ≤ z → z < n → g1 30 0 (3 * x + z) = M x z) → (∀ j, 0 ≤ j → j < n * n → g1 31 0 (3 * (j / n) + j % n) = cl ρ n M (E (w q)) (j / n) (j % n)) → ((b = 1 ∧ ∀ j, 0 ≤ j → j < n * n → ¬ (ρ = 0 ∧ 2147483647 < cl ρ n M (E (w q)) (j / n) (j % n))) ∨ (b = 0 ∧ ρ = 0 ∧ ∃ j, 0 ≤ j ∧ j < n * n ∧ 2147483647 < cl ρ n M (E (w q)) (j / n) (j % n))) → Ou 137 181 [vR 8 0, vI d, vR 22 0, vI off, vI len, vI n, vI q, vI b, vI k, t] [] g1 r Q) → Ou 137 87 [vR 8 0, vI d, vR 22 0, vI off, vI len, vI n, vI q, vI b, vI k, t] [] g1 r Q := by
  intro m
  induction m with
  | zero =>
    intro k b t g1 i0 i1 f i2 i3 i4 hQ
    obtain ⟨hρ, ⟨hn0, hn1⟩, hE⟩ := hb
    have hnn := nn_b hn0 hn1
    have hk : k = n * n := by omega
    rw [hk] at i3 i4
    refine o_iload (n := 89) rfl rfl rfl ?_
    refine o_iload (n := 91) rfl rfl rfl ?_
    refine o_iload (n := 93) rfl rfl rfl ?_
    refine o_imul (n := 94) rfl rfl (by omega) ?_
    refine o_icmp_ge (n := 97) (t := 181) rfl rfl rfl (fun h94 => ?_) (fun h94 => (by exfalso; omega))
    exact hQ k b t g1 hk f i2 i3 i4
  | succ m ih =>
    intro k b t g1 i0 i1 f i2 i3 i4 hQ
    have hb' := hb
    obtain ⟨hρ, ⟨hn0, hn1⟩, hE⟩ := hb
    have hnn := nn_b hn0 hn1
    have hd0 := dv hn0 hn1 i0 (by omega)
    obtain ⟨e27, e28, e26⟩ := Vr8_F f hV
    have ew : g1 22 0 (off + q) = w q := Vw_F (by omega) f hW q hq0 hq1
    have hwb := hw.2 q hq0 hq1
    have hl := hw.1
    refine o_iload (n := 89) rfl rfl rfl ?_
    refine o_iload (n := 91) rfl rfl rfl ?_
    refine o_iload (n := 93) rfl rfl rfl ?_
    refine o_imul (n := 94) rfl rfl (by omega) ?_
    refine o_icmp_ge (n := 97) (t := 181) rfl rfl rfl (fun h94 => (by exfalso; omega)) (fun h94 => ?_)
    refine o_iconst (n := 98) rfl rfl ?_
    refine o_iload (n := 100) rfl rfl rfl ?_
    refine o_iload (n := 102) rfl rfl rfl ?_
    refine o_idiv (n := 103) rfl rfl (by omega) ?_
    refine o_imul (n := 104) rfl rfl (by omega) ?_
    refine o_iload (n := 106) rfl rfl rfl ?_
    refine o_iload (n := 108) rfl rfl rfl ?_
    refine o_irem (n := 109) rfl rfl (by omega) ?_
    refine o_iadd (n := 110) rfl rfl (by omega) ?_
    refine o_istore_9 (n := 112) rfl rfl rfl ?_
    refine o_aload_n (n := 113) rfl rfl rfl ?_
    refine of_8_22 (n := 116) hS rfl rfl ?_
    refine o_iload (n := 118) rfl rfl rfl ?_
    refine o_aload_n (n := 119) rfl rfl rfl ?_
    refine o_iload_n (n := 120) rfl rfl rfl ?_
    refine o_aload_n (n := 121) rfl rfl rfl ?_
    refine o_iload_n (n := 122) rfl rfl rfl ?_
    refine o_iload (n := 124) rfl rfl rfl ?_
    refine o_iadd (n := 125) rfl rfl (by omega) ?_
    refine o_iald (n := 126) (L := 96) rfl rfl rfl rfl rfl (by omega) (by omega) ?_
    refine o_iload (n := 128) rfl rfl rfl ?_
    refine o_iload (n := 130) rfl rfl rfl ?_
    refine o_idiv (n := 131) rfl rfl (by omega) ?_
    refine o_iload (n := 133) rfl rfl rfl ?_
    refine o_iload (n := 135) rfl rfl rfl ?_
    refine o_irem (n := 136) rfl rfl (by omega) ?_
    have hc := c8_cell (g := g1) (M := M) (Es := E (w q)) hS hd hd1 hd0.1 (by omega) hwb.1 hwb.2 hd0.2.2.1 (by omega) e28 hn0 hn1 e27 (fun z a b => ⟨e26 (w q) z (k % n) hwb.1 hwb.2 a (by omega) hd0.2.2.1 (by omega), hE (w q) z (k % n) hwb.1 hwb.2 a (by omega) hd0.2.2.1 (by omega)⟩) 99999 (by omega) (fun z a b => ⟨i2 (k / n) z hd0.1 hd0.2.1 a b, hMb (k / n) z hd0.1 hd0.2.1 a b⟩)
    rw [← ew] at hc
    refine o_invi (n := 139) rfl rfl rfl rfl rfl rfl rfl rfl rfl rfl (hc) ?_
    refine o_last (n := 140) (L := 9) rfl rfl rfl rfl rfl (by omega) (by omega) ?_
    have h27 : gset g1 31 0 (3 * (k / n) + k % n) (cl ρ n M (E (g1 22 0 (off + q))) (k / n) (k % n)) 27 0 d = ρ := by rw [gset_k rfl]; exact e27
    refine o_iload (n := 142) rfl rfl rfl ?_
    refine o_if_eq (n := 145) (t := 172) rfl rfl rfl (fun h142 => ?_) (fun h142 => ?_)
    · refine o_iconst (n := 173) rfl rfl ?_
      
      refine o_istore_7 (n := 175) rfl rfl rfl ?_
      refine o_iinc_8 (n := 178) rfl rfl rfl (by omega) ?_
      refine o_goto (t := 87) rfl rfl ?_
      refine ih (k + 1) _ _ _ (by omega) (by omega) (F9_set (Or.inr rfl) f) (fun x z a b c d => by rw [gset_k rfl]; exact i2 x z a b c d) (fun j a b => ?_) ?_ hQ
      · by_cases e : j = k
        · subst e
          rw [gset_at, ew]
        · rw [gset_s (fun z => e (dv_i hn0 hn1 a (by omega) i0 (by omega) z))]; exact i3 j a (by omega)
      · first
          | (rcases i4 with ⟨i4, i5⟩ | ⟨i4, i5, j, a1, a2, a3⟩
             · exfalso; omega
             · exact Or.inr ⟨rfl, i5, j, a1, by omega, a3⟩)
          | (rcases i4 with ⟨i4, i5⟩ | ⟨i4, _⟩
             · refine Or.inl ⟨rfl, fun j a b => ?_⟩
               by_cases e : j = k
               · subst e; intro z; omega
               · exact i5 j a (by omega)
             · exfalso; omega)
          | (refine Or.inl ⟨rfl, fun j a b => ?_⟩
             rw [gset_at, ew] at h164
             rcases i4 with ⟨i4, i5⟩ | ⟨i4, _⟩
             · by_cases e : j = k
               · subst e; intro z; omega
               · exact i5 j a (by omega)
             · exfalso; omega)
          | (rw [gset_at, ew] at h164
             exact Or.inr ⟨rfl, by omega, k, i0, by omega, by omega⟩)
    · refine o_aload_n (n := 146) rfl rfl rfl ?_
      refine of_8_17 (n := 149) hS rfl rfl ?_
      refine o_iload_n (n := 150) rfl rfl rfl ?_
      refine o_iald (n := 151) (L := 9) rfl rfl rfl rfl rfl (by omega) (by omega) ?_
      refine o_if_ne (n := 154) (t := 168) rfl rfl rfl (fun h151 => ?_) (fun h151 => ?_)
      · refine o_iconst (n := 169) rfl rfl ?_
        refine o_goto (t := 173) rfl rfl ?_
        
        refine o_istore_7 (n := 175) rfl rfl rfl ?_
        refine o_iinc_8 (n := 178) rfl rfl rfl (by omega) ?_
        refine o_goto (t := 87) rfl rfl ?_
        refine ih (k + 1) _ _ _ (by omega) (by omega) (F9_set (Or.inr rfl) f) (fun x z a b c d => by rw [gset_k rfl]; exact i2 x z a b c d) (fun j a b => ?_) ?_ hQ
        · by_cases e : j = k
          · subst e
            rw [gset_at, ew]
          · rw [gset_s (fun z => e (dv_i hn0 hn1 a (by omega) i0 (by omega) z))]; exact i3 j a (by omega)
        · first
            | (rcases i4 with ⟨i4, i5⟩ | ⟨i4, i5, j, a1, a2, a3⟩
               · exfalso; omega
               · exact Or.inr ⟨rfl, i5, j, a1, by omega, a3⟩)
            | (rcases i4 with ⟨i4, i5⟩ | ⟨i4, _⟩
               · refine Or.inl ⟨rfl, fun j a b => ?_⟩
                 by_cases e : j = k
                 · subst e; intro z; omega
                 · exact i5 j a (by omega)
               · exfalso; omega)
            | (refine Or.inl ⟨rfl, fun j a b => ?_⟩
               rw [gset_at, ew] at h164
               rcases i4 with ⟨i4, i5⟩ | ⟨i4, _⟩
               · by_cases e : j = k
                 · subst e; intro z; omega
                 · exact i5 j a (by omega)
               · exfalso; omega)
            | (rw [gset_at, ew] at h164
               exact Or.inr ⟨rfl, by omega, k, i0, by omega, by omega⟩)
      · refine o_aload_n (n := 155) rfl rfl rfl ?_
        refine of_8_22 (n := 158) hS rfl rfl ?_
        refine o_iload (n := 160) rfl rfl rfl ?_
        refine o_lald (n := 161) (L := 9) rfl rfl rfl rfl rfl (by omega) (by omega) ?_
        refine o_ldc2_w (n := 164) rfl rfl ?_
        refine o_lcmp_gt (n := 168) (t := 172) rfl rfl rfl rfl (fun h164 => ?_) (fun h164 => ?_)
        · refine o_iconst (n := 173) rfl rfl ?_
          
          refine o_istore_7 (n := 175) rfl rfl rfl ?_
          refine o_iinc_8 (n := 178) rfl rfl rfl (by omega) ?_
          refine o_goto (t := 87) rfl rfl ?_
          refine ih (k + 1) _ _ _ (by omega) (by omega) (F9_set (Or.inr rfl) f) (fun x z a b c d => by rw [gset_k rfl]; exact i2 x z a b c d) (fun j a b => ?_) ?_ hQ
          · by_cases e : j = k
            · subst e
              rw [gset_at, ew]
            · rw [gset_s (fun z => e (dv_i hn0 hn1 a (by omega) i0 (by omega) z))]; exact i3 j a (by omega)
          · first
              | (rcases i4 with ⟨i4, i5⟩ | ⟨i4, i5, j, a1, a2, a3⟩
                 · exfalso; omega
                 · exact Or.inr ⟨rfl, i5, j, a1, by omega, a3⟩)
              | (rcases i4 with ⟨i4, i5⟩ | ⟨i4, _⟩
                 · refine Or.inl ⟨rfl, fun j a b => ?_⟩
                   by_cases e : j = k
                   · subst e; intro z; omega
                   · exact i5 j a (by omega)
                 · exfalso; omega)
              | (refine Or.inl ⟨rfl, fun j a b => ?_⟩
                 rw [gset_at, ew] at h164
                 rcases i4 with ⟨i4, i5⟩ | ⟨i4, _⟩
                 · by_cases e : j = k
                   · subst e; intro z; omega
                   · exact i5 j a (by omega)
                 · exfalso; omega)
              | (rw [gset_at, ew] at h164
                 exact Or.inr ⟨rfl, by omega, k, i0, by omega, by omega⟩)
        · refine o_iconst (n := 169) rfl rfl ?_
          refine o_goto (t := 173) rfl rfl ?_
          
          refine o_istore_7 (n := 175) rfl rfl rfl ?_
          refine o_iinc_8 (n := 178) rfl rfl rfl (by omega) ?_
          refine o_goto (t := 87) rfl rfl ?_
          refine ih (k + 1) _ _ _ (by omega) (by omega) (F9_set (Or.inr rfl) f) (fun x z a b c d => by rw [gset_k rfl]; exact i2 x z a b c d) (fun j a b => ?_) ?_ hQ
          · by_cases e : j = k
            · subst e
              rw [gset_at, ew]
            · rw [gset_s (fun z => e (dv_i hn0 hn1 a (by omega) i0 (by omega) z))]; exact i3 j a (by omega)
          · first
              | (rcases i4 with ⟨i4, i5⟩ | ⟨i4, i5, j, a1, a2, a3⟩
                 · exfalso; omega
                 · exact Or.inr ⟨rfl, i5, j, a1, by omega, a3⟩)
              | (rcases i4 with ⟨i4, i5⟩ | ⟨i4, _⟩
                 · refine Or.inl ⟨rfl, fun j a b => ?_⟩
                   by_cases e : j = k
                   · subst e; intro z; omega
                   · exact i5 j a (by omega)
                 · exfalso; omega)
              | (refine Or.inl ⟨rfl, fun j a b => ?_⟩
                 rw [gset_at, ew] at h164
                 rcases i4 with ⟨i4, i5⟩ | ⟨i4, _⟩
                 · by_cases e : j = k
                   · subst e; intro z; omega
                   · exact i5 j a (by omega)
                 · exfalso; omega)
              | (rw [gset_at, ew] at h164
                 exact Or.inr ⟨rfl, by omega, k, i0, by omega, by omega⟩)
theorem l8_copy_s (hS : am_St r) (hd : 0 ≤ d) (hd1 : d < 9) (hb : Br ρ n E) (hw : Bw len w) (hV : Vr8 g d ρ n E) (hW : Vw g 22 off len w) (ho : 0 ≤ off) (ho1 : off + len ≤ 96) {C : Int → Int → Int} {q b : Int} : ∀ (m : Nat) (k : Int) (t : AV) (g1 : GI), 0 ≤ k → k + m = n * n → F9 g g1 → (∀ j, 0 ≤ j → j < n * n → g1 31 0 (3 * (j / n) + j % n) = C (j / n) (j % n)) → (∀ j, 0 ≤ j → j < k → g1 30 0 (3 * (j / n) + j % n) = C (j / n) (j % n)) → (∀ k t g1, k = n * n → F9 g g1 → (∀ j, 0 ≤ j → j < n * n → g1 30 0 (3 * (j / n) + j % n) = C (j / n) (j % n)) → Ou 137 236 [vR 8 0, vI d, vR 22 0, vI off, vI len, vI n, vI q, vI b, vI k, t] [] g1 r Q) → Ou 137 191 [vR 8 0, vI d, vR 22 0, vI off, vI len, vI n, vI q, vI b, vI k, t] [] g1 r Q := by
  intro m
  induction m with
  | zero =>
    intro k t g1 i0 i1 f i2 i3 hQ
    obtain ⟨hρ, ⟨hn0, hn1⟩, hE⟩ := hb
    have hnn := nn_b hn0 hn1
    have hk : k = n * n := by omega
    rw [hk] at i3
    refine o_iload (n := 193) rfl rfl rfl ?_
    refine o_iload (n := 195) rfl rfl rfl ?_
    refine o_iload (n := 197) rfl rfl rfl ?_
    refine o_imul (n := 198) rfl rfl (by omega) ?_
    refine o_icmp_ge (n := 201) (t := 236) rfl rfl rfl (fun h198 => ?_) (fun h198 => (by exfalso; omega))
    exact hQ k t g1 hk f i3
  | succ m ih =>
    intro k t g1 i0 i1 f i2 i3 hQ
    obtain ⟨hρ, ⟨hn0, hn1⟩, hE⟩ := hb
    have hnn := nn_b hn0 hn1
    have hd0 := dv hn0 hn1 i0 (by omega)
    refine o_iload (n := 193) rfl rfl rfl ?_
    refine o_iload (n := 195) rfl rfl rfl ?_
    refine o_iload (n := 197) rfl rfl rfl ?_
    refine o_imul (n := 198) rfl rfl (by omega) ?_
    refine o_icmp_ge (n := 201) (t := 236) rfl rfl rfl (fun h198 => (by exfalso; omega)) (fun h198 => ?_)
    refine o_iconst (n := 202) rfl rfl ?_
    refine o_iload (n := 204) rfl rfl rfl ?_
    refine o_iload (n := 206) rfl rfl rfl ?_
    refine o_idiv (n := 207) rfl rfl (by omega) ?_
    refine o_imul (n := 208) rfl rfl (by omega) ?_
    refine o_iload (n := 210) rfl rfl rfl ?_
    refine o_iload (n := 212) rfl rfl rfl ?_
    refine o_irem (n := 213) rfl rfl (by omega) ?_
    refine o_iadd (n := 214) rfl rfl (by omega) ?_
    refine o_istore_9 (n := 216) rfl rfl rfl ?_
    refine o_aload_n (n := 217) rfl rfl rfl ?_
    refine of_8_21 (n := 220) hS rfl rfl ?_
    refine o_iload (n := 222) rfl rfl rfl ?_
    refine o_aload_n (n := 223) rfl rfl rfl ?_
    refine of_8_22 (n := 226) hS rfl rfl ?_
    refine o_iload (n := 228) rfl rfl rfl ?_
    refine o_lald (n := 229) (L := 9) rfl rfl rfl rfl rfl (by omega) (by omega) ?_
    refine o_last (n := 230) (L := 9) rfl rfl rfl rfl rfl (by omega) (by omega) ?_
    refine o_iinc_8 (n := 233) rfl rfl rfl (by omega) ?_
    refine o_goto (t := 191) rfl rfl ?_
    refine ih (k + 1) _ _ (by omega) (by omega) (F9_set (Or.inl rfl) f) (fun j a b => by rw [gset_k rfl]; exact i2 j a b) (fun j a b => ?_) hQ
    by_cases e : j = k
    · subst e
      rw [gset_at]; exact i2 j a (by omega)
    · rw [gset_s (fun z => e (dv_i hn0 hn1 a (by omega) i0 (by omega) z))]; exact i3 j a (by omega)
theorem l8_rk_s (hS : am_St r) (hd : 0 ≤ d) (hd1 : d < 9) (hb : Br ρ n E) (hw : Bw len w) (hV : Vr8 g d ρ n E) (hW : Vw g 22 off len w) (ho : 0 ≤ off) (ho1 : off + len ≤ 96) : ∀ (m q : Nat) (t7 t8 t9 : AV) (g1 : GI), (q : Int) + m = len → F9 g g1 → ¬ vo ρ n E w q → (∀ x z, 0 ≤ x → x < n → 0 ≤ z → z < n → g1 30 0 (3 * x + z) = mt ρ n E w q x z) → Ou 137 74 [vR 8 0, vI d, vR 22 0, vI off, vI len, vI n, vI (q : Int), t7, t8, t9] [] g1 r (fun v g1 r1 => r1 = r ∧ F9 g g1 ∧ v = some (vI (bi (¬ vo ρ n E w len.toNat))) ∧ (¬ vo ρ n E w len.toNat → ∀ x y, 0 ≤ x → x < n → 0 ≤ y → y < n → g1 30 0 (3 * x + y) = mt ρ n E w len.toNat x y)) := by
  intro m
  induction m with
  | zero =>
    intro q t7 t8 t9 g1 i0 f i1 i2
    have hq : len.toNat = q := by omega
    rw [hq]
    refine o_iload (n := 76) rfl rfl rfl ?_
    refine o_iload (n := 78) rfl rfl rfl ?_
    refine o_icmp_ge (n := 81) (t := 242) rfl rfl rfl (fun h78 => ?_) (fun h78 => (by exfalso; omega))
    refine o_iconst (n := 243) rfl rfl ?_
    refine o_zret rfl rfl (by omega) ?_
    first | (exfalso; omega; done) | exact ⟨rfl, f, by rw [bi_t i1], fun _ => i2⟩
  | succ m ih =>
    intro q t7 t8 t9 g1 i0 f i1 i2
    have hb' := hb
    obtain ⟨hρ, ⟨hn0, hn1⟩, hE⟩ := hb
    have hnn := nn_b hn0 hn1
    have hmb := mt_b hb' hw q (by omega) i1
    have hl := hw.1
    refine o_iload (n := 76) rfl rfl rfl ?_
    refine o_iload (n := 78) rfl rfl rfl ?_
    refine o_icmp_ge (n := 81) (t := 242) rfl rfl rfl (fun h78 => (by exfalso; omega)) (fun h78 => ?_)
    refine o_iconst (n := 82) rfl rfl ?_
    refine o_istore_7 (n := 84) rfl rfl rfl ?_
    refine o_iconst (n := 85) rfl rfl ?_
    refine o_istore_8 (n := 87) rfl rfl rfl ?_
    refine l8_cells_s hS hd hd1 hb' hw hV hW ho ho1 (M := mt ρ n E w q) (fun x z a b c d => ⟨(hmb x z a b c d).1, fun hz => by have := (hmb x z a b c d).2 hz; omega⟩) (q := (q : Int)) (by omega) (by omega) (n * n).toNat 0 1 _ _ (by omega) (by omega) f i2 (fun j a b => by omega) (Or.inl ⟨rfl, fun j a b => by omega⟩) (fun k b t g2 hk f2 j2 j3 j4 => ?_)
    refine o_iload (n := 183) rfl rfl rfl ?_
    refine o_if_ne (n := 186) (t := 188) rfl rfl rfl (fun h183 => ?_) (fun h183 => ?_)
    · refine o_iconst (n := 189) rfl rfl ?_
      refine o_istore_8 (n := 191) rfl rfl rfl ?_
      have j6 : ∀ j, 0 ≤ j → j < n * n → ¬ (ρ = 0 ∧ 2147483647 < cl ρ n (mt ρ n E w q) (E (w q)) (j / n) (j % n)) := by
        rcases j4 with ⟨_, j5⟩ | ⟨j4, _⟩
        · exact j5
        · exfalso; omega
      refine l8_copy_s hS hd hd1 hb' hw hV hW ho ho1 (C := fun x y => cl ρ n (mt ρ n E w q) (E (w q)) x y) (q := (q : Int)) (b := b) (n * n).toNat 0 _ _ (by omega) (by omega) f2 j3 (fun j a b => by omega) (fun k t g3 hk f3 k3 => ?_)
      refine o_iinc_6 (n := 239) rfl rfl rfl (by omega) ?_
      refine o_goto (t := 74) rfl rfl ?_
      rw [show (q : Int) + 1 = ((q + 1 : Nat) : Int) by omega]
      refine ih (q + 1) _ _ _ _ (by omega) f3 (fun z => ?_) (fun x y a0 a1 b0 b1 => ?_)
      · rcases vo_s.mp z with z | ⟨z, x, y, a0, a1, b0, b1, z2⟩
        · exact i1 z
        · have hx := dv_x hn0 hn1 a0 a1 b0 b1
          have := j6 (n * x + y) hx.1 hx.2.1
          rw [hx.2.2.1, hx.2.2.2] at this
          exact this ⟨z, z2⟩
      · have hx := dv_x hn0 hn1 a0 a1 b0 b1
        have := k3 (n * x + y) hx.1 hx.2.1
        rw [hx.2.2.1, hx.2.2.2] at this
        exact this
    · refine o_iconst (n := 187) rfl rfl ?_
      refine o_zret rfl rfl (by omega) ?_
      have hov : ov ρ n (mt ρ n E w (q + 1)) := by
        rcases j4 with ⟨j4, _⟩ | ⟨_, j5, j, a1, a2, a3⟩
        · exfalso; omega
        · have hd1 := dv hn0 hn1 a1 a2
          exact ⟨j5, j / n, j % n, hd1.1, hd1.2.1, hd1.2.2.1, hd1.2.2.2, a3⟩
      have hvo : vo ρ n E w len.toNat := vo_mono (j := q + 1) (by omega) (vo_s.mpr (Or.inr hov))
      exact ⟨rfl, f2, by rw [bi_f (fun z => z hvo)], fun z => absurd hvo z⟩
theorem c8_reckons_s (hS : am_St r) (hd : 0 ≤ d) (hd1 : d < 9) (hb : Br ρ n E) (hw : Bw len w) (hV : Vr8 g d ρ n E) (hW : Vw g 22 off len w) (ho : 0 ≤ off) (ho1 : off + len ≤ 96) : Ou 137 0 [vR 8 0, vI d, vR 22 0, vI off, vI len, vN, vN, vN, vN, vN] [] g r (fun v g1 r1 => r1 = r ∧ F9 g g1 ∧ v = some (vI (bi (¬ vo ρ n E w len.toNat))) ∧ (¬ vo ρ n E w len.toNat → ∀ x y, 0 ≤ x → x < n → 0 ≤ y → y < n → g1 30 0 (3 * x + y) = mt ρ n E w len.toNat x y)) := by
  have hb' := hb
  obtain ⟨hρ, ⟨hn0, hn1⟩, hE⟩ := hb
  have hnn := nn_b hn0 hn1
  have e27 := hV.1
  have e28 := hV.2.1
  have hl := hw.1
  refine o_aload_n (n := 1) rfl rfl rfl ?_
  refine of_8_18 (n := 4) hS rfl rfl ?_
  refine o_iload_n (n := 5) rfl rfl rfl ?_
  refine o_iald (n := 6) (L := 9) rfl rfl rfl rfl rfl (by omega) (by omega) ?_
  refine o_istore_5 (n := 8) rfl rfl rfl ?_
  rw [e28]
  refine o_iconst (n := 9) rfl rfl ?_
  refine o_istore_6 (n := 11) rfl rfl rfl ?_
  refine l8_idn_s hS hd hd1 hb' hw hV hW ho ho1 9 0 g (by omega) (by omega) (F9_refl g) (fun j a b => by omega) (fun g1 f i1 => ?_)
  refine o_iconst (n := 72) rfl rfl ?_
  refine o_istore_6 (n := 74) rfl rfl rfl ?_
  refine l8_rk_s hS hd hd1 hb' hw hV hW ho ho1 len.toNat 0 _ _ _ g1 (by omega) f (fun ⟨k, z, _⟩ => by omega) (fun x z a0 a1 b0 b1 => ?_)
  rw [i1 (3 * x + z) (by omega) (by omega)]
  unfold idv mt
  exact cif_congr (by omega)
theorem l8_idn_w (hS : am_St r) (hd : 0 ≤ d) (hd1 : d < 9) (hb : Br ρ n E) (hw : Bw len w) (hV : Vr8 g d ρ n E) (hW : Vw g 25 off len w) (ho : 0 ≤ off) (ho1 : off + len ≤ 24) : ∀ (m : Nat) (k : Int) (g1 : GI), 0 ≤ k → k + m = 9 → F9 g g1 → (∀ j, 0 ≤ j → j < k → g1 30 0 j = idv ρ j) → (∀ g1, F9 g g1 → (∀ j, 0 ≤ j → j < 9 → g1 30 0 j = idv ρ j) → Ou 137 71 [vR 8 0, vI d, vR 25 0, vI off, vI len, vI n, vI 9, vN, vN, vN] [] g1 r Q) → Ou 137 11 [vR 8 0, vI d, vR 25 0, vI off, vI len, vI n, vI k, vN, vN, vN] [] g1 r Q := by
  intro m
  induction m with
  | zero =>
    intro k g1 i0 i1 f i2 hQ
    have hk : k = 9 := by omega
    subst hk
    refine o_iload (n := 13) rfl rfl rfl ?_
    refine o_bipush (n := 15) rfl rfl ?_
    refine o_icmp_ge (n := 18) (t := 71) rfl rfl rfl (fun h15 => ?_) (fun h15 => (by exfalso; omega))
    exact hQ g1 f i2
  | succ m ih =>
    intro k g1 i0 i1 f i2 hQ
    obtain ⟨e27, e28, e26⟩ := Vr8_F f hV
    refine o_iload (n := 13) rfl rfl rfl ?_
    refine o_bipush (n := 15) rfl rfl ?_
    refine o_icmp_ge (n := 18) (t := 71) rfl rfl rfl (fun h15 => (by exfalso; omega)) (fun h15 => ?_)
    refine o_aload_n (n := 19) rfl rfl rfl ?_
    refine of_8_21 (n := 22) hS rfl rfl ?_
    refine o_iload (n := 24) rfl rfl rfl ?_
    refine o_iload (n := 26) rfl rfl rfl ?_
    refine o_iconst (n := 27) rfl rfl ?_
    refine o_irem (n := 28) rfl rfl (by omega) ?_
    refine o_if_ne (n := 31) (t := 48) rfl rfl rfl (fun h28 => ?_) (fun h28 => ?_)
    · refine o_aload_n (n := 49) rfl rfl rfl ?_
      refine of_8_17 (n := 52) hS rfl rfl ?_
      refine o_iload_n (n := 53) rfl rfl rfl ?_
      refine o_iald (n := 54) (L := 9) rfl rfl rfl rfl rfl (by omega) (by omega) ?_
      refine o_if_ne (n := 57) (t := 61) rfl rfl rfl (fun h54 => ?_) (fun h54 => ?_)
      · refine o_ldc2_w (n := 64) rfl rfl ?_
        refine o_last (n := 65) (L := 9) rfl rfl rfl rfl rfl (by omega) (by omega) ?_
        refine o_iinc_6 (n := 68) rfl rfl rfl (by omega) ?_
        refine o_goto (t := 11) rfl rfl ?_
        refine ih (k + 1) _ (by omega) (by omega) (F9_set (Or.inl rfl) f) (fun j a b => ?_) hQ
        by_cases e : j = k
        · subst e
          rw [gset_at]
          unfold idv
          first | (rw [cif_t (by omega), cif_t (by omega)]) | (rw [cif_t (by omega), cif_f (by omega)]) | (rw [cif_f (by omega), cif_t (by omega)]) | (rw [cif_f (by omega), cif_f (by omega)])
        · rw [gset_s e]; exact i2 j a (by omega)
      · refine o_lconst (n := 58) rfl rfl ?_
        refine o_goto (t := 64) rfl rfl ?_
        refine o_last (n := 65) (L := 9) rfl rfl rfl rfl rfl (by omega) (by omega) ?_
        refine o_iinc_6 (n := 68) rfl rfl rfl (by omega) ?_
        refine o_goto (t := 11) rfl rfl ?_
        refine ih (k + 1) _ (by omega) (by omega) (F9_set (Or.inl rfl) f) (fun j a b => ?_) hQ
        by_cases e : j = k
        · subst e
          rw [gset_at]
          unfold idv
          first | (rw [cif_t (by omega), cif_t (by omega)]) | (rw [cif_t (by omega), cif_f (by omega)]) | (rw [cif_f (by omega), cif_t (by omega)]) | (rw [cif_f (by omega), cif_f (by omega)])
        · rw [gset_s e]; exact i2 j a (by omega)
    · refine o_aload_n (n := 32) rfl rfl rfl ?_
      refine of_8_17 (n := 35) hS rfl rfl ?_
      refine o_iload_n (n := 36) rfl rfl rfl ?_
      refine o_iald (n := 37) (L := 9) rfl rfl rfl rfl rfl (by omega) (by omega) ?_
      refine o_if_ne (n := 40) (t := 44) rfl rfl rfl (fun h37 => ?_) (fun h37 => ?_)
      · refine o_lconst (n := 45) rfl rfl ?_
        refine o_goto (t := 64) rfl rfl ?_
        refine o_last (n := 65) (L := 9) rfl rfl rfl rfl rfl (by omega) (by omega) ?_
        refine o_iinc_6 (n := 68) rfl rfl rfl (by omega) ?_
        refine o_goto (t := 11) rfl rfl ?_
        refine ih (k + 1) _ (by omega) (by omega) (F9_set (Or.inl rfl) f) (fun j a b => ?_) hQ
        by_cases e : j = k
        · subst e
          rw [gset_at]
          unfold idv
          first | (rw [cif_t (by omega), cif_t (by omega)]) | (rw [cif_t (by omega), cif_f (by omega)]) | (rw [cif_f (by omega), cif_t (by omega)]) | (rw [cif_f (by omega), cif_f (by omega)])
        · rw [gset_s e]; exact i2 j a (by omega)
      · refine o_lconst (n := 41) rfl rfl ?_
        refine o_goto (t := 64) rfl rfl ?_
        refine o_last (n := 65) (L := 9) rfl rfl rfl rfl rfl (by omega) (by omega) ?_
        refine o_iinc_6 (n := 68) rfl rfl rfl (by omega) ?_
        refine o_goto (t := 11) rfl rfl ?_
        refine ih (k + 1) _ (by omega) (by omega) (F9_set (Or.inl rfl) f) (fun j a b => ?_) hQ
        by_cases e : j = k
        · subst e
          rw [gset_at]
          unfold idv
          first | (rw [cif_t (by omega), cif_t (by omega)]) | (rw [cif_t (by omega), cif_f (by omega)]) | (rw [cif_f (by omega), cif_t (by omega)]) | (rw [cif_f (by omega), cif_f (by omega)])
        · rw [gset_s e]; exact i2 j a (by omega)
theorem l8_cells_w (hS : am_St r) (hd : 0 ≤ d) (hd1 : d < 9) (hb : Br ρ n E) (hw : Bw len w) (hV : Vr8 g d ρ n E) (hW : Vw g 25 off len w) (ho : 0 ≤ off) (ho1 : off + len ≤ 24) {M : Int → Int → Int} (hMb : ∀ x z, 0 ≤ x → x < n → 0 ≤ z → z < n → (ρ = 0 → 0 ≤ M x z ∧ M x z ≤ 2147483647) ∧ (ρ ≠ 0 → -1 ≤ M x z ∧ M x z ≤ 99999)) {q : Int} (hq0 : 0 ≤ q) (hq1 : q < len) : ∀ (m : Nat) (k b : Int) (t : AV) (g1 : GI), 0 ≤ k → k + m = n * n → F9 g g1 → (∀ x z, 0 ≤ x → x < n → 0 ≤ z → z < n → g1 30 0 (3 * x + z) = M x z) → (∀ j, 0 ≤ j → j < k → g1 31 0 (3 * (j / n) + j % n) = cl ρ n M (E (w q)) (j / n) (j % n)) → ((b = 1 ∧ ∀ j, 0 ≤ j → j < k → ¬ (ρ = 0 ∧ 2147483647 < cl ρ n M (E (w q)) (j / n) (j % n))) ∨ (b = 0 ∧ ρ = 0 ∧ ∃ j, 0 ≤ j ∧ j < k ∧ 2147483647 < cl ρ n M (E (w q)) (j / n) (j % n))) → (∀ k b t g1, k = n * n → F9 g g1 → (∀ x z, 0 ≤ x → x < n → 0 ≤ z → z < n → g1 30 0 (3 * x + z) = M x z) → (∀ j, 0 ≤ j → j < n * n → g1 31 0 (3 * (j / n) + j % n) = cl ρ n M (E (w q)) (j / n) (j % n)) → ((b = 1 ∧ ∀ j, 0 ≤ j → j < n * n → ¬ (ρ = 0 ∧ 2147483647 < cl ρ n M (E (w q)) (j / n) (j % n))) ∨ (b = 0 ∧ ρ = 0 ∧ ∃ j, 0 ≤ j ∧ j < n * n ∧ 2147483647 < cl ρ n M (E (w q)) (j / n) (j % n))) → Ou 137 181 [vR 8 0, vI d, vR 25 0, vI off, vI len, vI n, vI q, vI b, vI k, t] [] g1 r Q) → Ou 137 87 [vR 8 0, vI d, vR 25 0, vI off, vI len, vI n, vI q, vI b, vI k, t] [] g1 r Q := by
  intro m
  induction m with
  | zero =>
    intro k b t g1 i0 i1 f i2 i3 i4 hQ
    obtain ⟨hρ, ⟨hn0, hn1⟩, hE⟩ := hb
    have hnn := nn_b hn0 hn1
    have hk : k = n * n := by omega
    rw [hk] at i3 i4
    refine o_iload (n := 89) rfl rfl rfl ?_
    refine o_iload (n := 91) rfl rfl rfl ?_
    refine o_iload (n := 93) rfl rfl rfl ?_
    refine o_imul (n := 94) rfl rfl (by omega) ?_
    refine o_icmp_ge (n := 97) (t := 181) rfl rfl rfl (fun h94 => ?_) (fun h94 => (by exfalso; omega))
    exact hQ k b t g1 hk f i2 i3 i4
  | succ m ih =>
    intro k b t g1 i0 i1 f i2 i3 i4 hQ
    have hb' := hb
    obtain ⟨hρ, ⟨hn0, hn1⟩, hE⟩ := hb
    have hnn := nn_b hn0 hn1
    have hd0 := dv hn0 hn1 i0 (by omega)
    obtain ⟨e27, e28, e26⟩ := Vr8_F f hV
    have ew : g1 25 0 (off + q) = w q := Vw_F (by omega) f hW q hq0 hq1
    have hwb := hw.2 q hq0 hq1
    have hl := hw.1
    refine o_iload (n := 89) rfl rfl rfl ?_
    refine o_iload (n := 91) rfl rfl rfl ?_
    refine o_iload (n := 93) rfl rfl rfl ?_
    refine o_imul (n := 94) rfl rfl (by omega) ?_
    refine o_icmp_ge (n := 97) (t := 181) rfl rfl rfl (fun h94 => (by exfalso; omega)) (fun h94 => ?_)
    refine o_iconst (n := 98) rfl rfl ?_
    refine o_iload (n := 100) rfl rfl rfl ?_
    refine o_iload (n := 102) rfl rfl rfl ?_
    refine o_idiv (n := 103) rfl rfl (by omega) ?_
    refine o_imul (n := 104) rfl rfl (by omega) ?_
    refine o_iload (n := 106) rfl rfl rfl ?_
    refine o_iload (n := 108) rfl rfl rfl ?_
    refine o_irem (n := 109) rfl rfl (by omega) ?_
    refine o_iadd (n := 110) rfl rfl (by omega) ?_
    refine o_istore_9 (n := 112) rfl rfl rfl ?_
    refine o_aload_n (n := 113) rfl rfl rfl ?_
    refine of_8_22 (n := 116) hS rfl rfl ?_
    refine o_iload (n := 118) rfl rfl rfl ?_
    refine o_aload_n (n := 119) rfl rfl rfl ?_
    refine o_iload_n (n := 120) rfl rfl rfl ?_
    refine o_aload_n (n := 121) rfl rfl rfl ?_
    refine o_iload_n (n := 122) rfl rfl rfl ?_
    refine o_iload (n := 124) rfl rfl rfl ?_
    refine o_iadd (n := 125) rfl rfl (by omega) ?_
    refine o_iald (n := 126) (L := 24) rfl rfl rfl rfl rfl (by omega) (by omega) ?_
    refine o_iload (n := 128) rfl rfl rfl ?_
    refine o_iload (n := 130) rfl rfl rfl ?_
    refine o_idiv (n := 131) rfl rfl (by omega) ?_
    refine o_iload (n := 133) rfl rfl rfl ?_
    refine o_iload (n := 135) rfl rfl rfl ?_
    refine o_irem (n := 136) rfl rfl (by omega) ?_
    have hc := c8_cell (g := g1) (M := M) (Es := E (w q)) hS hd hd1 hd0.1 (by omega) hwb.1 hwb.2 hd0.2.2.1 (by omega) e28 hn0 hn1 e27 (fun z a b => ⟨e26 (w q) z (k % n) hwb.1 hwb.2 a (by omega) hd0.2.2.1 (by omega), hE (w q) z (k % n) hwb.1 hwb.2 a (by omega) hd0.2.2.1 (by omega)⟩) 99999 (by omega) (fun z a b => ⟨i2 (k / n) z hd0.1 hd0.2.1 a b, hMb (k / n) z hd0.1 hd0.2.1 a b⟩)
    rw [← ew] at hc
    refine o_invi (n := 139) rfl rfl rfl rfl rfl rfl rfl rfl rfl rfl (hc) ?_
    refine o_last (n := 140) (L := 9) rfl rfl rfl rfl rfl (by omega) (by omega) ?_
    have h27 : gset g1 31 0 (3 * (k / n) + k % n) (cl ρ n M (E (g1 25 0 (off + q))) (k / n) (k % n)) 27 0 d = ρ := by rw [gset_k rfl]; exact e27
    refine o_iload (n := 142) rfl rfl rfl ?_
    refine o_if_eq (n := 145) (t := 172) rfl rfl rfl (fun h142 => ?_) (fun h142 => ?_)
    · refine o_iconst (n := 173) rfl rfl ?_
      
      refine o_istore_7 (n := 175) rfl rfl rfl ?_
      refine o_iinc_8 (n := 178) rfl rfl rfl (by omega) ?_
      refine o_goto (t := 87) rfl rfl ?_
      refine ih (k + 1) _ _ _ (by omega) (by omega) (F9_set (Or.inr rfl) f) (fun x z a b c d => by rw [gset_k rfl]; exact i2 x z a b c d) (fun j a b => ?_) ?_ hQ
      · by_cases e : j = k
        · subst e
          rw [gset_at, ew]
        · rw [gset_s (fun z => e (dv_i hn0 hn1 a (by omega) i0 (by omega) z))]; exact i3 j a (by omega)
      · first
          | (rcases i4 with ⟨i4, i5⟩ | ⟨i4, i5, j, a1, a2, a3⟩
             · exfalso; omega
             · exact Or.inr ⟨rfl, i5, j, a1, by omega, a3⟩)
          | (rcases i4 with ⟨i4, i5⟩ | ⟨i4, _⟩
             · refine Or.inl ⟨rfl, fun j a b => ?_⟩
               by_cases e : j = k
               · subst e; intro z; omega
               · exact i5 j a (by omega)
             · exfalso; omega)
          | (refine Or.inl ⟨rfl, fun j a b => ?_⟩
             rw [gset_at, ew] at h164
             rcases i4 with ⟨i4, i5⟩ | ⟨i4, _⟩
             · by_cases e : j = k
               · subst e; intro z; omega
               · exact i5 j a (by omega)
             · exfalso; omega)
          | (rw [gset_at, ew] at h164
             exact Or.inr ⟨rfl, by omega, k, i0, by omega, by omega⟩)
    · refine o_aload_n (n := 146) rfl rfl rfl ?_
      refine of_8_17 (n := 149) hS rfl rfl ?_
      refine o_iload_n (n := 150) rfl rfl rfl ?_
      refine o_iald (n := 151) (L := 9) rfl rfl rfl rfl rfl (by omega) (by omega) ?_
      refine o_if_ne (n := 154) (t := 168) rfl rfl rfl (fun h151 => ?_) (fun h151 => ?_)
      · refine o_iconst (n := 169) rfl rfl ?_
        refine o_goto (t := 173) rfl rfl ?_
        
        refine o_istore_7 (n := 175) rfl rfl rfl ?_
        refine o_iinc_8 (n := 178) rfl rfl rfl (by omega) ?_
        refine o_goto (t := 87) rfl rfl ?_
        refine ih (k + 1) _ _ _ (by omega) (by omega) (F9_set (Or.inr rfl) f) (fun x z a b c d => by rw [gset_k rfl]; exact i2 x z a b c d) (fun j a b => ?_) ?_ hQ
        · by_cases e : j = k
          · subst e
            rw [gset_at, ew]
          · rw [gset_s (fun z => e (dv_i hn0 hn1 a (by omega) i0 (by omega) z))]; exact i3 j a (by omega)
        · first
            | (rcases i4 with ⟨i4, i5⟩ | ⟨i4, i5, j, a1, a2, a3⟩
               · exfalso; omega
               · exact Or.inr ⟨rfl, i5, j, a1, by omega, a3⟩)
            | (rcases i4 with ⟨i4, i5⟩ | ⟨i4, _⟩
               · refine Or.inl ⟨rfl, fun j a b => ?_⟩
                 by_cases e : j = k
                 · subst e; intro z; omega
                 · exact i5 j a (by omega)
               · exfalso; omega)
            | (refine Or.inl ⟨rfl, fun j a b => ?_⟩
               rw [gset_at, ew] at h164
               rcases i4 with ⟨i4, i5⟩ | ⟨i4, _⟩
               · by_cases e : j = k
                 · subst e; intro z; omega
                 · exact i5 j a (by omega)
               · exfalso; omega)
            | (rw [gset_at, ew] at h164
               exact Or.inr ⟨rfl, by omega, k, i0, by omega, by omega⟩)
      · refine o_aload_n (n := 155) rfl rfl rfl ?_
        refine of_8_22 (n := 158) hS rfl rfl ?_
        refine o_iload (n := 160) rfl rfl rfl ?_
        refine o_lald (n := 161) (L := 9) rfl rfl rfl rfl rfl (by omega) (by omega) ?_
        refine o_ldc2_w (n := 164) rfl rfl ?_
        refine o_lcmp_gt (n := 168) (t := 172) rfl rfl rfl rfl (fun h164 => ?_) (fun h164 => ?_)
        · refine o_iconst (n := 173) rfl rfl ?_
          
          refine o_istore_7 (n := 175) rfl rfl rfl ?_
          refine o_iinc_8 (n := 178) rfl rfl rfl (by omega) ?_
          refine o_goto (t := 87) rfl rfl ?_
          refine ih (k + 1) _ _ _ (by omega) (by omega) (F9_set (Or.inr rfl) f) (fun x z a b c d => by rw [gset_k rfl]; exact i2 x z a b c d) (fun j a b => ?_) ?_ hQ
          · by_cases e : j = k
            · subst e
              rw [gset_at, ew]
            · rw [gset_s (fun z => e (dv_i hn0 hn1 a (by omega) i0 (by omega) z))]; exact i3 j a (by omega)
          · first
              | (rcases i4 with ⟨i4, i5⟩ | ⟨i4, i5, j, a1, a2, a3⟩
                 · exfalso; omega
                 · exact Or.inr ⟨rfl, i5, j, a1, by omega, a3⟩)
              | (rcases i4 with ⟨i4, i5⟩ | ⟨i4, _⟩
                 · refine Or.inl ⟨rfl, fun j a b => ?_⟩
                   by_cases e : j = k
                   · subst e; intro z; omega
                   · exact i5 j a (by omega)
                 · exfalso; omega)
              | (refine Or.inl ⟨rfl, fun j a b => ?_⟩
                 rw [gset_at, ew] at h164
                 rcases i4 with ⟨i4, i5⟩ | ⟨i4, _⟩
                 · by_cases e : j = k
                   · subst e; intro z; omega
                   · exact i5 j a (by omega)
                 · exfalso; omega)
              | (rw [gset_at, ew] at h164
                 exact Or.inr ⟨rfl, by omega, k, i0, by omega, by omega⟩)
        · refine o_iconst (n := 169) rfl rfl ?_
          refine o_goto (t := 173) rfl rfl ?_
          
          refine o_istore_7 (n := 175) rfl rfl rfl ?_
          refine o_iinc_8 (n := 178) rfl rfl rfl (by omega) ?_
          refine o_goto (t := 87) rfl rfl ?_
          refine ih (k + 1) _ _ _ (by omega) (by omega) (F9_set (Or.inr rfl) f) (fun x z a b c d => by rw [gset_k rfl]; exact i2 x z a b c d) (fun j a b => ?_) ?_ hQ
          · by_cases e : j = k
            · subst e
              rw [gset_at, ew]
            · rw [gset_s (fun z => e (dv_i hn0 hn1 a (by omega) i0 (by omega) z))]; exact i3 j a (by omega)
          · first
              | (rcases i4 with ⟨i4, i5⟩ | ⟨i4, i5, j, a1, a2, a3⟩
                 · exfalso; omega
                 · exact Or.inr ⟨rfl, i5, j, a1, by omega, a3⟩)
              | (rcases i4 with ⟨i4, i5⟩ | ⟨i4, _⟩
                 · refine Or.inl ⟨rfl, fun j a b => ?_⟩
                   by_cases e : j = k
                   · subst e; intro z; omega
                   · exact i5 j a (by omega)
                 · exfalso; omega)
              | (refine Or.inl ⟨rfl, fun j a b => ?_⟩
                 rw [gset_at, ew] at h164
                 rcases i4 with ⟨i4, i5⟩ | ⟨i4, _⟩
                 · by_cases e : j = k
                   · subst e; intro z; omega
                   · exact i5 j a (by omega)
                 · exfalso; omega)
              | (rw [gset_at, ew] at h164
                 exact Or.inr ⟨rfl, by omega, k, i0, by omega, by omega⟩)
theorem l8_copy_w (hS : am_St r) (hd : 0 ≤ d) (hd1 : d < 9) (hb : Br ρ n E) (hw : Bw len w) (hV : Vr8 g d ρ n E) (hW : Vw g 25 off len w) (ho : 0 ≤ off) (ho1 : off + len ≤ 24) {C : Int → Int → Int} {q b : Int} : ∀ (m : Nat) (k : Int) (t : AV) (g1 : GI), 0 ≤ k → k + m = n * n → F9 g g1 → (∀ j, 0 ≤ j → j < n * n → g1 31 0 (3 * (j / n) + j % n) = C (j / n) (j % n)) → (∀ j, 0 ≤ j → j < k → g1 30 0 (3 * (j / n) + j % n) = C (j / n) (j % n)) → (∀ k t g1, k = n * n → F9 g g1 → (∀ j, 0 ≤ j → j < n * n → g1 30 0 (3 * (j / n) + j % n) = C (j / n) (j % n)) → Ou 137 236 [vR 8 0, vI d, vR 25 0, vI off, vI len, vI n, vI q, vI b, vI k, t] [] g1 r Q) → Ou 137 191 [vR 8 0, vI d, vR 25 0, vI off, vI len, vI n, vI q, vI b, vI k, t] [] g1 r Q := by
  intro m
  induction m with
  | zero =>
    intro k t g1 i0 i1 f i2 i3 hQ
    obtain ⟨hρ, ⟨hn0, hn1⟩, hE⟩ := hb
    have hnn := nn_b hn0 hn1
    have hk : k = n * n := by omega
    rw [hk] at i3
    refine o_iload (n := 193) rfl rfl rfl ?_
    refine o_iload (n := 195) rfl rfl rfl ?_
    refine o_iload (n := 197) rfl rfl rfl ?_
    refine o_imul (n := 198) rfl rfl (by omega) ?_
    refine o_icmp_ge (n := 201) (t := 236) rfl rfl rfl (fun h198 => ?_) (fun h198 => (by exfalso; omega))
    exact hQ k t g1 hk f i3
  | succ m ih =>
    intro k t g1 i0 i1 f i2 i3 hQ
    obtain ⟨hρ, ⟨hn0, hn1⟩, hE⟩ := hb
    have hnn := nn_b hn0 hn1
    have hd0 := dv hn0 hn1 i0 (by omega)
    refine o_iload (n := 193) rfl rfl rfl ?_
    refine o_iload (n := 195) rfl rfl rfl ?_
    refine o_iload (n := 197) rfl rfl rfl ?_
    refine o_imul (n := 198) rfl rfl (by omega) ?_
    refine o_icmp_ge (n := 201) (t := 236) rfl rfl rfl (fun h198 => (by exfalso; omega)) (fun h198 => ?_)
    refine o_iconst (n := 202) rfl rfl ?_
    refine o_iload (n := 204) rfl rfl rfl ?_
    refine o_iload (n := 206) rfl rfl rfl ?_
    refine o_idiv (n := 207) rfl rfl (by omega) ?_
    refine o_imul (n := 208) rfl rfl (by omega) ?_
    refine o_iload (n := 210) rfl rfl rfl ?_
    refine o_iload (n := 212) rfl rfl rfl ?_
    refine o_irem (n := 213) rfl rfl (by omega) ?_
    refine o_iadd (n := 214) rfl rfl (by omega) ?_
    refine o_istore_9 (n := 216) rfl rfl rfl ?_
    refine o_aload_n (n := 217) rfl rfl rfl ?_
    refine of_8_21 (n := 220) hS rfl rfl ?_
    refine o_iload (n := 222) rfl rfl rfl ?_
    refine o_aload_n (n := 223) rfl rfl rfl ?_
    refine of_8_22 (n := 226) hS rfl rfl ?_
    refine o_iload (n := 228) rfl rfl rfl ?_
    refine o_lald (n := 229) (L := 9) rfl rfl rfl rfl rfl (by omega) (by omega) ?_
    refine o_last (n := 230) (L := 9) rfl rfl rfl rfl rfl (by omega) (by omega) ?_
    refine o_iinc_8 (n := 233) rfl rfl rfl (by omega) ?_
    refine o_goto (t := 191) rfl rfl ?_
    refine ih (k + 1) _ _ (by omega) (by omega) (F9_set (Or.inl rfl) f) (fun j a b => by rw [gset_k rfl]; exact i2 j a b) (fun j a b => ?_) hQ
    by_cases e : j = k
    · subst e
      rw [gset_at]; exact i2 j a (by omega)
    · rw [gset_s (fun z => e (dv_i hn0 hn1 a (by omega) i0 (by omega) z))]; exact i3 j a (by omega)
theorem l8_rk_w (hS : am_St r) (hd : 0 ≤ d) (hd1 : d < 9) (hb : Br ρ n E) (hw : Bw len w) (hV : Vr8 g d ρ n E) (hW : Vw g 25 off len w) (ho : 0 ≤ off) (ho1 : off + len ≤ 24) : ∀ (m q : Nat) (t7 t8 t9 : AV) (g1 : GI), (q : Int) + m = len → F9 g g1 → ¬ vo ρ n E w q → (∀ x z, 0 ≤ x → x < n → 0 ≤ z → z < n → g1 30 0 (3 * x + z) = mt ρ n E w q x z) → Ou 137 74 [vR 8 0, vI d, vR 25 0, vI off, vI len, vI n, vI (q : Int), t7, t8, t9] [] g1 r (fun v g1 r1 => r1 = r ∧ F9 g g1 ∧ v = some (vI (bi (¬ vo ρ n E w len.toNat))) ∧ (¬ vo ρ n E w len.toNat → ∀ x y, 0 ≤ x → x < n → 0 ≤ y → y < n → g1 30 0 (3 * x + y) = mt ρ n E w len.toNat x y)) := by
  intro m
  induction m with
  | zero =>
    intro q t7 t8 t9 g1 i0 f i1 i2
    have hq : len.toNat = q := by omega
    rw [hq]
    refine o_iload (n := 76) rfl rfl rfl ?_
    refine o_iload (n := 78) rfl rfl rfl ?_
    refine o_icmp_ge (n := 81) (t := 242) rfl rfl rfl (fun h78 => ?_) (fun h78 => (by exfalso; omega))
    refine o_iconst (n := 243) rfl rfl ?_
    refine o_zret rfl rfl (by omega) ?_
    first | (exfalso; omega; done) | exact ⟨rfl, f, by rw [bi_t i1], fun _ => i2⟩
  | succ m ih =>
    intro q t7 t8 t9 g1 i0 f i1 i2
    have hb' := hb
    obtain ⟨hρ, ⟨hn0, hn1⟩, hE⟩ := hb
    have hnn := nn_b hn0 hn1
    have hmb := mt_b hb' hw q (by omega) i1
    have hl := hw.1
    refine o_iload (n := 76) rfl rfl rfl ?_
    refine o_iload (n := 78) rfl rfl rfl ?_
    refine o_icmp_ge (n := 81) (t := 242) rfl rfl rfl (fun h78 => (by exfalso; omega)) (fun h78 => ?_)
    refine o_iconst (n := 82) rfl rfl ?_
    refine o_istore_7 (n := 84) rfl rfl rfl ?_
    refine o_iconst (n := 85) rfl rfl ?_
    refine o_istore_8 (n := 87) rfl rfl rfl ?_
    refine l8_cells_w hS hd hd1 hb' hw hV hW ho ho1 (M := mt ρ n E w q) (fun x z a b c d => ⟨(hmb x z a b c d).1, fun hz => by have := (hmb x z a b c d).2 hz; omega⟩) (q := (q : Int)) (by omega) (by omega) (n * n).toNat 0 1 _ _ (by omega) (by omega) f i2 (fun j a b => by omega) (Or.inl ⟨rfl, fun j a b => by omega⟩) (fun k b t g2 hk f2 j2 j3 j4 => ?_)
    refine o_iload (n := 183) rfl rfl rfl ?_
    refine o_if_ne (n := 186) (t := 188) rfl rfl rfl (fun h183 => ?_) (fun h183 => ?_)
    · refine o_iconst (n := 189) rfl rfl ?_
      refine o_istore_8 (n := 191) rfl rfl rfl ?_
      have j6 : ∀ j, 0 ≤ j → j < n * n → ¬ (ρ = 0 ∧ 2147483647 < cl ρ n (mt ρ n E w q) (E (w q)) (j / n) (j % n)) := by
        rcases j4 with ⟨_, j5⟩ | ⟨j4, _⟩
        · exact j5
        · exfalso; omega
      refine l8_copy_w hS hd hd1 hb' hw hV hW ho ho1 (C := fun x y => cl ρ n (mt ρ n E w q) (E (w q)) x y) (q := (q : Int)) (b := b) (n * n).toNat 0 _ _ (by omega) (by omega) f2 j3 (fun j a b => by omega) (fun k t g3 hk f3 k3 => ?_)
      refine o_iinc_6 (n := 239) rfl rfl rfl (by omega) ?_
      refine o_goto (t := 74) rfl rfl ?_
      rw [show (q : Int) + 1 = ((q + 1 : Nat) : Int) by omega]
      refine ih (q + 1) _ _ _ _ (by omega) f3 (fun z => ?_) (fun x y a0 a1 b0 b1 => ?_)
      · rcases vo_s.mp z with z | ⟨z, x, y, a0, a1, b0, b1, z2⟩
        · exact i1 z
        · have hx := dv_x hn0 hn1 a0 a1 b0 b1
          have := j6 (n * x + y) hx.1 hx.2.1
          rw [hx.2.2.1, hx.2.2.2] at this
          exact this ⟨z, z2⟩
      · have hx := dv_x hn0 hn1 a0 a1 b0 b1
        have := k3 (n * x + y) hx.1 hx.2.1
        rw [hx.2.2.1, hx.2.2.2] at this
        exact this
    · refine o_iconst (n := 187) rfl rfl ?_
      refine o_zret rfl rfl (by omega) ?_
      have hov : ov ρ n (mt ρ n E w (q + 1)) := by
        rcases j4 with ⟨j4, _⟩ | ⟨_, j5, j, a1, a2, a3⟩
        · exfalso; omega
        · have hd1 := dv hn0 hn1 a1 a2
          exact ⟨j5, j / n, j % n, hd1.1, hd1.2.1, hd1.2.2.1, hd1.2.2.2, a3⟩
      have hvo : vo ρ n E w len.toNat := vo_mono (j := q + 1) (by omega) (vo_s.mpr (Or.inr hov))
      exact ⟨rfl, f2, by rw [bi_f (fun z => z hvo)], fun z => absurd hvo z⟩
theorem c8_reckons_w (hS : am_St r) (hd : 0 ≤ d) (hd1 : d < 9) (hb : Br ρ n E) (hw : Bw len w) (hV : Vr8 g d ρ n E) (hW : Vw g 25 off len w) (ho : 0 ≤ off) (ho1 : off + len ≤ 24) : Ou 137 0 [vR 8 0, vI d, vR 25 0, vI off, vI len, vN, vN, vN, vN, vN] [] g r (fun v g1 r1 => r1 = r ∧ F9 g g1 ∧ v = some (vI (bi (¬ vo ρ n E w len.toNat))) ∧ (¬ vo ρ n E w len.toNat → ∀ x y, 0 ≤ x → x < n → 0 ≤ y → y < n → g1 30 0 (3 * x + y) = mt ρ n E w len.toNat x y)) := by
  have hb' := hb
  obtain ⟨hρ, ⟨hn0, hn1⟩, hE⟩ := hb
  have hnn := nn_b hn0 hn1
  have e27 := hV.1
  have e28 := hV.2.1
  have hl := hw.1
  refine o_aload_n (n := 1) rfl rfl rfl ?_
  refine of_8_18 (n := 4) hS rfl rfl ?_
  refine o_iload_n (n := 5) rfl rfl rfl ?_
  refine o_iald (n := 6) (L := 9) rfl rfl rfl rfl rfl (by omega) (by omega) ?_
  refine o_istore_5 (n := 8) rfl rfl rfl ?_
  rw [e28]
  refine o_iconst (n := 9) rfl rfl ?_
  refine o_istore_6 (n := 11) rfl rfl rfl ?_
  refine l8_idn_w hS hd hd1 hb' hw hV hW ho ho1 9 0 g (by omega) (by omega) (F9_refl g) (fun j a b => by omega) (fun g1 f i1 => ?_)
  refine o_iconst (n := 72) rfl rfl ?_
  refine o_istore_6 (n := 74) rfl rfl rfl ?_
  refine l8_rk_w hS hd hd1 hb' hw hV hW ho ho1 len.toNat 0 _ _ _ g1 (by omega) f (fun ⟨k, z, _⟩ => by omega) (fun x z a0 a1 b0 b1 => ?_)
  rw [i1 (3 * x + z) (by omega) (by omega)]
  unfold idv mt
  exact cif_congr (by omega)
end MAT
