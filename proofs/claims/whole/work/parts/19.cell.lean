/-! values: cells of products, both classes. Written by wip/gen/gen19.py -/
/-- a factor joined to a sum, by a ring -/
noncomputable def cs (ρ a b acc : Int) : Int := cif (ρ = 0) (acc + cif (b = -1) 0 (a * b)) (jn ρ acc (cif (a = -1 ∨ b = -1) (-1) (a + b)))
/-- the sum from factor z on -/
noncomputable def clp (ρ : Int) (M E : Int → Int → Int) (x y : Int) : Nat → Int → Int → Int
  | 0, _, acc => acc
  | n + 1, z, acc => clp ρ M E x y n (z + 1) (cs ρ (M x z) (E z y) acc)
noncomputable def cl (ρ n : Int) (M E : Int → Int → Int) (x y : Int) : Int := clp ρ M E x y n.toNat 0 (cif (ρ = 0) 0 (-1))
/-- the matrix of the first k signs of w -/
noncomputable def mt (ρ n : Int) (E : Int → Int → Int → Int) (w : Int → Int) : Nat → Int → Int → Int
  | 0 => fun x y => cif (x = y) (cif (ρ = 0) 1 0) (cif (ρ = 0) 0 (-1))
  | k + 1 => fun x y => cl ρ n (mt ρ n E w k) (E (w k)) x y
def ov (ρ n : Int) (M : Int → Int → Int) : Prop := ρ = 0 ∧ ∃ x y, 0 ≤ x ∧ x < n ∧ 0 ≤ y ∧ y < n ∧ 2147483647 < M x y
def vo (ρ n : Int) (E : Int → Int → Int → Int) (w : Int → Int) (len : Nat) : Prop := ∃ k, k < len ∧ ov ρ n (mt ρ n E w (k + 1))
theorem cs_n0 {a b acc : Int} (h : b = -1) : cs 0 a b acc = acc + 0 := by unfold cs; rw [cif_t rfl, cif_t h]
theorem cs_n {a b acc : Int} (h : b ≠ -1) : cs 0 a b acc = acc + a * b := by unfold cs; rw [cif_t rfl, cif_f h]
theorem cs_t {ρ a b acc : Int} (hr : ρ ≠ 0) (h : a = -1 ∨ b = -1) : cs ρ a b acc = jn ρ acc (-1) := by unfold cs; rw [cif_f hr, cif_t h]
theorem cs_u {ρ a b acc : Int} (hr : ρ ≠ 0) (h : ¬ (a = -1 ∨ b = -1)) : cs ρ a b acc = jn ρ acc (a + b) := by unfold cs; rw [cif_f hr, cif_f h]
theorem jn_m {ρ a : Int} : jn ρ a (-1) = a := by
  unfold jn; rw [cif_t (Or.inr rfl)]
  by_cases h : a = -1
  · rw [cif_t h, h]
  · rw [cif_f h]
theorem jn_n {ρ b : Int} : jn ρ (-1) b = b := by unfold jn; rw [cif_t (Or.inl rfl), cif_t rfl]
theorem jn_l {ρ a b : Int} (ha : a ≠ -1) (hb : b ≠ -1) (h : (ρ = 1 ∧ a ≤ b) ∨ (ρ ≠ 1 ∧ b ≤ a)) : jn ρ a b = a := by
  unfold jn; rw [cif_f (by omega)]
  by_cases c : (ρ = 1 ∧ a < b) ∨ (ρ ≠ 1 ∧ b ≤ a)
  · rw [cif_t c]
  · rw [cif_f c]; omega
theorem jn_r {ρ a b : Int} (ha : a ≠ -1) (hb : b ≠ -1) (h : (ρ = 1 ∧ b < a) ∨ (ρ ≠ 1 ∧ a < b)) : jn ρ a b = b := by
  unfold jn; rw [cif_f (by omega), cif_f (by omega)]
theorem jn_b {ρ a b C : Int} (ha : -1 ≤ a) (ha1 : a ≤ C) (hb : -1 ≤ b) (hb1 : b ≤ C) : -1 ≤ jn ρ a b ∧ jn ρ a b ≤ C := by
  unfold jn
  by_cases c1 : a = -1 ∨ b = -1
  · rw [cif_t c1]
    by_cases c2 : a = -1
    · rw [cif_t c2]; omega
    · rw [cif_f c2]; omega
  · rw [cif_f c1]
    by_cases c2 : (ρ = 1 ∧ a < b) ∨ (ρ ≠ 1 ∧ b ≤ a)
    · rw [cif_t c2]; omega
    · rw [cif_f c2]; omega
theorem clp_s {ρ : Int} {M E : Int → Int → Int} {x y : Int} {n : Nat} {z acc : Int} : clp ρ M E x y (n + 1) z acc = clp ρ M E x y n (z + 1) (cs ρ (M x z) (E z y) acc) := rfl
theorem clp_z {ρ : Int} {M E : Int → Int → Int} {x y z acc : Int} : clp ρ M E x y 0 z acc = acc := rfl
theorem clp_b0 {M E : Int → Int → Int} {x y : Int} : ∀ {n : Nat} {z acc : Int}, 0 ≤ z → 0 ≤ acc → acc ≤ z * 2145336163353 → (∀ j, z ≤ j → j < z + n → 0 ≤ M x j ∧ M x j ≤ 2147483647 ∧ -1 ≤ E j y ∧ E j y ≤ 999) → 0 ≤ clp 0 M E x y n z acc ∧ clp 0 M E x y n z acc ≤ (z + n) * 2145336163353
  | 0, z, acc, _, h1, h2, _ => by rw [clp_z]; omega
  | n + 1, z, acc, h0, h1, h2, h3 => by
    rw [clp_s]
    obtain ⟨m0, m1, e0, e1⟩ := h3 z (by omega) (by omega)
    by_cases c : E z y = -1
    · rw [cs_n0 c]
      have := clp_b0 (M := M) (E := E) (x := x) (y := y) (n := n) (z := z + 1) (acc := acc + 0) (by omega) (by omega) (by omega) (fun j a b => h3 j (by omega) (by omega))
      omega
    · rw [cs_n c]
      have hb := ml_b (a := M x z) (b := E z y) (A := 2147483647) (B := 999) m0 m1 (by omega) e1
      have := clp_b0 (M := M) (E := E) (x := x) (y := y) (n := n) (z := z + 1) (acc := acc + M x z * E z y) (by omega) (by omega) (by omega) (fun j a b => h3 j (by omega) (by omega))
      omega
theorem clp_b1 {ρ : Int} (hr : ρ ≠ 0) {M E : Int → Int → Int} {x y C : Int} (hC : -1 ≤ C) : ∀ {n : Nat} {z acc : Int}, -1 ≤ acc → acc ≤ C + 999 → (∀ j, z ≤ j → j < z + n → -1 ≤ M x j ∧ M x j ≤ C ∧ -1 ≤ E j y ∧ E j y ≤ 999) → -1 ≤ clp ρ M E x y n z acc ∧ clp ρ M E x y n z acc ≤ C + 999
  | 0, z, acc, h1, h2, _ => by rw [clp_z]; omega
  | n + 1, z, acc, h1, h2, h3 => by
    rw [clp_s]
    obtain ⟨m0, m1, e0, e1⟩ := h3 z (by omega) (by omega)
    by_cases c : M x z = -1 ∨ E z y = -1
    · rw [cs_t hr c]
      have hj := jn_b (ρ := ρ) (a := acc) (b := -1) (C := C + 999) (by omega) (by omega) (by omega) (by omega)
      exact clp_b1 hr hC hj.1 hj.2 (fun j a b => h3 j (by omega) (by omega))
    · rw [cs_u hr c]
      have hj := jn_b (ρ := ρ) (a := acc) (b := M x z + E z y) (C := C + 999) (by omega) (by omega) (by omega) (by omega)
      exact clp_b1 hr hC hj.1 hj.2 (fun j a b => h3 j (by omega) (by omega))
section CELL
variable {g r : GI} {ρ n x s y : Int} {M Es : Int → Int → Int}
theorem l0_nat (hS : am_St r) {e c : Int} (he : 0 ≤ e) (he1 : e < 10) (hc : 0 ≤ c) (hc1 : c < 4) (hx : 0 ≤ x) (hx1 : x < 3) (hs : 0 ≤ s) (hs1 : s < 4) (hy : 0 ≤ y) (hy1 : y < 3) (hn : g 0 e 1 = n) (hn0 : 1 ≤ n) (hn1 : n ≤ 3) (hE : ∀ z, 0 ≤ z → z < n → g 9 e (s * 9 + y + z * 3) = Es z y ∧ -1 ≤ Es z y ∧ Es z y ≤ 999) (hM : ∀ z, 0 ≤ z → z < n → g 13 c (x * 3 + z) = M x z ∧ 0 ≤ M x z ∧ M x z ≤ 2147483647) : ∀ (m : Nat) (k acc : Int) (t : AV), (0 ≤ k) → (k + m = n) → (0 ≤ acc) → (acc ≤ k * 2145336163353) → Ou 10 15 [vR 0 e, vR 13 c, vI x, vI s, vI y, vI (s * 9 + y), vL acc, vN, vI k, t] [] g r (Rq (some (vL (clp 0 M Es x y m k acc))) g r) := by
  intro m
  induction m with
  | zero =>
    intro k acc t i0 i1 i2 i3
    refine o_iload (n := 17) rfl rfl rfl ?_
    refine o_aload_n (n := 18) rfl rfl rfl ?_
    refine o_geti (n := 21) rfl rfl rfl (ok_0 (by omega) (by omega)) rfl ?_
    refine o_icmp_ge (n := 24) (t := 68) rfl rfl rfl (fun h21 => ?_) (fun h21 => (by exfalso; omega))
    refine o_lload (n := 70) rfl rfl rfl ?_
    refine o_lret rfl ?_
    first | (exfalso; omega; done) | exact ⟨rfl, rfl, rfl⟩
  | succ m ih =>
    intro k acc t i0 i1 i2 i3
    obtain ⟨m1, m2, m3⟩ := hM k i0 (by omega)
    obtain ⟨e1, e2, e3⟩ := hE k i0 (by omega)
    refine o_iload (n := 17) rfl rfl rfl ?_
    refine o_aload_n (n := 18) rfl rfl rfl ?_
    refine o_geti (n := 21) rfl rfl rfl (ok_0 (by omega) (by omega)) rfl ?_
    refine o_icmp_ge (n := 24) (t := 68) rfl rfl rfl (fun h21 => (by exfalso; omega)) (fun h21 => ?_)
    refine o_aload_n (n := 25) rfl rfl rfl ?_
    refine of_0_2 (n := 28) hS rfl rfl (by omega) (by omega) ?_
    refine o_iload (n := 30) rfl rfl rfl ?_
    refine o_iload (n := 32) rfl rfl rfl ?_
    refine o_iconst (n := 33) rfl rfl ?_
    refine o_imul (n := 34) rfl rfl (by omega) ?_
    refine o_iadd (n := 35) rfl rfl (by omega) ?_
    refine o_iald (n := 36) (L := 36) rfl rfl (ok_9 (by omega) (by omega)) rfl rfl (by omega) (by omega) ?_
    refine o_istore_9 (n := 38) rfl rfl rfl ?_
    refine o_iload (n := 40) rfl rfl rfl ?_
    refine o_iconst (n := 41) rfl rfl ?_
    refine o_icmp_eq (n := 44) (t := 62) rfl rfl rfl (fun h41 => ?_) (fun h41 => ?_)
    · refine o_iinc_8 (n := 65) rfl rfl rfl (by omega) ?_
      refine o_goto (t := 15) rfl rfl ?_
      first
        | (rw [clp_s, cs_n0 (by omega), Int.add_zero]; exact ih (k + 1) acc _ (by omega) (by omega) (by omega) (by omega))
        | (rw [clp_s, cs_n (by omega), m1, e1]
           have hb := ml_b (a := M x k) (b := Es k y) (A := 2147483647) (B := 999) m2 m3 (by omega) e3
           exact ih (k + 1) (acc + M x k * Es k y) _ (by omega) (by omega) (by omega) (by omega))
    · refine o_lload (n := 46) rfl rfl rfl ?_
      refine o_aload_n (n := 47) rfl rfl rfl ?_
      refine o_iload_n (n := 48) rfl rfl rfl ?_
      refine o_iconst (n := 49) rfl rfl ?_
      refine o_imul (n := 50) rfl rfl (by omega) ?_
      refine o_iload (n := 52) rfl rfl rfl ?_
      refine o_iadd (n := 53) rfl rfl (by omega) ?_
      refine o_iald (n := 54) (L := 9) rfl rfl (ok_13 (by omega) (by omega)) rfl rfl (by omega) (by omega) ?_
      refine o_i2l (n := 55) rfl rfl ?_
      refine o_iload (n := 57) rfl rfl rfl ?_
      refine o_i2l (n := 58) rfl rfl ?_
      refine o_lmulN (n := 59) rfl rfl (by rw [m1, e1]; have := ml_b (a := M x k) (b := Es k y) (A := 2147483647) (B := 999) m2 m3 (by omega) e3; omega) ?_
      refine o_laddN (n := 60) rfl rfl (by rw [m1, e1]; have := ml_b (a := M x k) (b := Es k y) (A := 2147483647) (B := 999) m2 m3 (by omega) e3; omega) ?_
      refine o_lstore_6 (n := 62) rfl rfl rfl ?_
      refine o_iinc_8 (n := 65) rfl rfl rfl (by omega) ?_
      refine o_goto (t := 15) rfl rfl ?_
      first
        | (rw [clp_s, cs_n0 (by omega), Int.add_zero]; exact ih (k + 1) acc _ (by omega) (by omega) (by omega) (by omega))
        | (rw [clp_s, cs_n (by omega), m1, e1]
           have hb := ml_b (a := M x k) (b := Es k y) (A := 2147483647) (B := 999) m2 m3 (by omega) e3
           exact ih (k + 1) (acc + M x k * Es k y) _ (by omega) (by omega) (by omega) (by omega))
theorem c0_nat (hS : am_St r) {e c : Int} (he : 0 ≤ e) (he1 : e < 10) (hc : 0 ≤ c) (hc1 : c < 4) (hx : 0 ≤ x) (hx1 : x < 3) (hs : 0 ≤ s) (hs1 : s < 4) (hy : 0 ≤ y) (hy1 : y < 3) (hn : g 0 e 1 = n) (hn0 : 1 ≤ n) (hn1 : n ≤ 3) (hE : ∀ z, 0 ≤ z → z < n → g 9 e (s * 9 + y + z * 3) = Es z y ∧ -1 ≤ Es z y ∧ Es z y ≤ 999) (hM : ∀ z, 0 ≤ z → z < n → g 13 c (x * 3 + z) = M x z ∧ 0 ≤ M x z ∧ M x z ≤ 2147483647) : Rt 10 [vR 0 e, vR 13 c, vI x, vI s, vI y] g r (some (vL (cl 0 n M Es x y))) g r := by
  refine rt_of ?_
  show Ou 10 0 [vR 0 e, vR 13 c, vI x, vI s, vI y, vN, vN, vN, vN, vN] [] g r _
  refine o_iload_n (n := 1) rfl rfl rfl ?_
  refine o_bipush (n := 3) rfl rfl ?_
  refine o_imul (n := 4) rfl rfl (by omega) ?_
  refine o_iload (n := 6) rfl rfl rfl ?_
  refine o_iadd (n := 7) rfl rfl (by omega) ?_
  refine o_istore_5 (n := 9) rfl rfl rfl ?_
  refine o_lconst (n := 10) rfl rfl ?_
  refine o_lstore_6 (n := 12) rfl rfl rfl ?_
  refine o_iconst (n := 13) rfl rfl ?_
  refine o_istore_8 (n := 15) rfl rfl rfl ?_
  rw [show cl 0 n M Es x y = clp 0 M Es x y n.toNat 0 0 from by unfold cl; rw [cif_t rfl]]
  exact l0_nat hS he he1 hc hc1 hx hx1 hs hs1 hy hy1 hn hn0 hn1 hE hM _ 0 0 _ (by omega) (by omega) (by omega) (by omega)
theorem l0_best (hS : am_St r) {e c : Int} (he : 0 ≤ e) (he1 : e < 10) (hc : 0 ≤ c) (hc1 : c < 4) (hx : 0 ≤ x) (hx1 : x < 3) (hs : 0 ≤ s) (hs1 : s < 4) (hy : 0 ≤ y) (hy1 : y < 3) (hn : g 0 e 1 = n) (hn0 : 1 ≤ n) (hn1 : n ≤ 3) (hE : ∀ z, 0 ≤ z → z < n → g 9 e (s * 9 + y + z * 3) = Es z y ∧ -1 ≤ Es z y ∧ Es z y ≤ 999) (C : Int) (hC : C ≤ 99999) (hM : ∀ z, 0 ≤ z → z < n → g 13 c (x * 3 + z) = M x z ∧ -1 ≤ M x z ∧ M x z ≤ C) (hq : g 0 e 0 = ρ) (hr : ρ ≠ 0) : ∀ (m : Nat) (k acc : Int) (t8 t9 t10 : AV), (0 ≤ k) → (k + m = n) → (-1 ≤ acc) → (acc ≤ C + 999 ∨ acc = -1) → Ou 11 15 [vR 0 e, vR 13 c, vI x, vI s, vI y, vI (s * 9 + y), vI acc, vI k, t8, t9, t10] [] g r (Rq (some (vI (clp ρ M Es x y m k acc))) g r) := by
  intro m
  induction m with
  | zero =>
    intro k acc t8 t9 t10 i0 i1 i2 i3
    refine o_iload (n := 17) rfl rfl rfl ?_
    refine o_aload_n (n := 18) rfl rfl rfl ?_
    refine o_geti (n := 21) rfl rfl rfl (ok_0 (by omega) (by omega)) rfl ?_
    refine o_icmp_ge (n := 24) (t := 108) rfl rfl rfl (fun h21 => ?_) (fun h21 => (by exfalso; omega))
    refine o_iload (n := 110) rfl rfl rfl ?_
    refine o_iret rfl rfl ?_
    first | (exfalso; omega; done) | exact ⟨rfl, rfl, rfl⟩
  | succ m ih =>
    intro k acc t8 t9 t10 i0 i1 i2 i3
    obtain ⟨m1, m2, m3⟩ := hM k i0 (by omega)
    obtain ⟨e1, e2, e3⟩ := hE k i0 (by omega)
    refine o_iload (n := 17) rfl rfl rfl ?_
    refine o_aload_n (n := 18) rfl rfl rfl ?_
    refine o_geti (n := 21) rfl rfl rfl (ok_0 (by omega) (by omega)) rfl ?_
    refine o_icmp_ge (n := 24) (t := 108) rfl rfl rfl (fun h21 => (by exfalso; omega)) (fun h21 => ?_)
    refine o_aload_n (n := 25) rfl rfl rfl ?_
    refine o_iload_n (n := 26) rfl rfl rfl ?_
    refine o_iconst (n := 27) rfl rfl ?_
    refine o_imul (n := 28) rfl rfl (by omega) ?_
    refine o_iload (n := 30) rfl rfl rfl ?_
    refine o_iadd (n := 31) rfl rfl (by omega) ?_
    refine o_iald (n := 32) (L := 9) rfl rfl (ok_13 (by omega) (by omega)) rfl rfl (by omega) (by omega) ?_
    refine o_istore_8 (n := 34) rfl rfl rfl ?_
    refine o_aload_n (n := 35) rfl rfl rfl ?_
    refine of_0_2 (n := 38) hS rfl rfl (by omega) (by omega) ?_
    refine o_iload (n := 40) rfl rfl rfl ?_
    refine o_iload (n := 42) rfl rfl rfl ?_
    refine o_iconst (n := 43) rfl rfl ?_
    refine o_imul (n := 44) rfl rfl (by omega) ?_
    refine o_iadd (n := 45) rfl rfl (by omega) ?_
    refine o_iald (n := 46) (L := 36) rfl rfl (ok_9 (by omega) (by omega)) rfl rfl (by omega) (by omega) ?_
    refine o_istore_9 (n := 48) rfl rfl rfl ?_
    refine o_iload (n := 50) rfl rfl rfl ?_
    refine o_iconst (n := 51) rfl rfl ?_
    refine o_icmp_eq (n := 54) (t := 102) rfl rfl rfl (fun h51 => ?_) (fun h51 => ?_)
    · refine o_iinc_7 (n := 105) rfl rfl rfl (by omega) ?_
      refine o_goto (t := 15) rfl rfl ?_
      rw [clp_s]
      first
        | (rw [cs_t hr (by omega), jn_m]; exact ih (k + 1) acc _ _ _ (by omega) (by omega) (by omega) (by omega))
        | (rw [cs_u hr (by omega), show acc = -1 by omega, jn_n, ← m1, ← e1]; exact ih (k + 1) (g 13 c (x * 3 + k) + g 9 e (s * 9 + y + k * 3)) _ _ _ (by omega) (by omega) (by omega) (by omega))
        | (rw [cs_u hr (by omega), jn_l (by omega) (by omega) (by omega)]; exact ih (k + 1) acc _ _ _ (by omega) (by omega) (by omega) (by omega))
        | (rw [cs_u hr (by omega), jn_r (by omega) (by omega) (by omega), ← m1, ← e1]; exact ih (k + 1) (g 13 c (x * 3 + k) + g 9 e (s * 9 + y + k * 3)) _ _ _ (by omega) (by omega) (by omega) (by omega))
    · refine o_iload (n := 56) rfl rfl rfl ?_
      refine o_iconst (n := 57) rfl rfl ?_
      refine o_icmp_eq (n := 60) (t := 102) rfl rfl rfl (fun h57 => ?_) (fun h57 => ?_)
      · refine o_iinc_7 (n := 105) rfl rfl rfl (by omega) ?_
        refine o_goto (t := 15) rfl rfl ?_
        rw [clp_s]
        first
          | (rw [cs_t hr (by omega), jn_m]; exact ih (k + 1) acc _ _ _ (by omega) (by omega) (by omega) (by omega))
          | (rw [cs_u hr (by omega), show acc = -1 by omega, jn_n, ← m1, ← e1]; exact ih (k + 1) (g 13 c (x * 3 + k) + g 9 e (s * 9 + y + k * 3)) _ _ _ (by omega) (by omega) (by omega) (by omega))
          | (rw [cs_u hr (by omega), jn_l (by omega) (by omega) (by omega)]; exact ih (k + 1) acc _ _ _ (by omega) (by omega) (by omega) (by omega))
          | (rw [cs_u hr (by omega), jn_r (by omega) (by omega) (by omega), ← m1, ← e1]; exact ih (k + 1) (g 13 c (x * 3 + k) + g 9 e (s * 9 + y + k * 3)) _ _ _ (by omega) (by omega) (by omega) (by omega))
      · refine o_iload (n := 62) rfl rfl rfl ?_
        refine o_iload (n := 64) rfl rfl rfl ?_
        refine o_iadd (n := 65) rfl rfl (by omega) ?_
        refine o_istore_10 (n := 67) rfl rfl rfl ?_
        refine o_iload (n := 69) rfl rfl rfl ?_
        refine o_iconst (n := 70) rfl rfl ?_
        refine o_icmp_eq (n := 73) (t := 98) rfl rfl rfl (fun h70 => ?_) (fun h70 => ?_)
        · refine o_iload (n := 100) rfl rfl rfl ?_
          refine o_istore_6 (n := 102) rfl rfl rfl ?_
          refine o_iinc_7 (n := 105) rfl rfl rfl (by omega) ?_
          refine o_goto (t := 15) rfl rfl ?_
          rw [clp_s]
          first
            | (rw [cs_t hr (by omega), jn_m]; exact ih (k + 1) acc _ _ _ (by omega) (by omega) (by omega) (by omega))
            | (rw [cs_u hr (by omega), show acc = -1 by omega, jn_n, ← m1, ← e1]; exact ih (k + 1) (g 13 c (x * 3 + k) + g 9 e (s * 9 + y + k * 3)) _ _ _ (by omega) (by omega) (by omega) (by omega))
            | (rw [cs_u hr (by omega), jn_l (by omega) (by omega) (by omega)]; exact ih (k + 1) acc _ _ _ (by omega) (by omega) (by omega) (by omega))
            | (rw [cs_u hr (by omega), jn_r (by omega) (by omega) (by omega), ← m1, ← e1]; exact ih (k + 1) (g 13 c (x * 3 + k) + g 9 e (s * 9 + y + k * 3)) _ _ _ (by omega) (by omega) (by omega) (by omega))
        · refine o_aload_n (n := 74) rfl rfl rfl ?_
          refine o_geti (n := 77) rfl rfl rfl (ok_0 (by omega) (by omega)) rfl ?_
          refine o_iconst (n := 78) rfl rfl ?_
          refine o_icmp_ne (n := 81) (t := 91) rfl rfl rfl (fun h78 => ?_) (fun h78 => ?_)
          · refine o_iload (n := 93) rfl rfl rfl ?_
            refine o_iload (n := 95) rfl rfl rfl ?_
            refine o_icmp_le (n := 98) (t := 102) rfl rfl rfl (fun h95 => ?_) (fun h95 => ?_)
            · refine o_iinc_7 (n := 105) rfl rfl rfl (by omega) ?_
              refine o_goto (t := 15) rfl rfl ?_
              rw [clp_s]
              first
                | (rw [cs_t hr (by omega), jn_m]; exact ih (k + 1) acc _ _ _ (by omega) (by omega) (by omega) (by omega))
                | (rw [cs_u hr (by omega), show acc = -1 by omega, jn_n, ← m1, ← e1]; exact ih (k + 1) (g 13 c (x * 3 + k) + g 9 e (s * 9 + y + k * 3)) _ _ _ (by omega) (by omega) (by omega) (by omega))
                | (rw [cs_u hr (by omega), jn_l (by omega) (by omega) (by omega)]; exact ih (k + 1) acc _ _ _ (by omega) (by omega) (by omega) (by omega))
                | (rw [cs_u hr (by omega), jn_r (by omega) (by omega) (by omega), ← m1, ← e1]; exact ih (k + 1) (g 13 c (x * 3 + k) + g 9 e (s * 9 + y + k * 3)) _ _ _ (by omega) (by omega) (by omega) (by omega))
            · refine o_iload (n := 100) rfl rfl rfl ?_
              refine o_istore_6 (n := 102) rfl rfl rfl ?_
              refine o_iinc_7 (n := 105) rfl rfl rfl (by omega) ?_
              refine o_goto (t := 15) rfl rfl ?_
              rw [clp_s]
              first
                | (rw [cs_t hr (by omega), jn_m]; exact ih (k + 1) acc _ _ _ (by omega) (by omega) (by omega) (by omega))
                | (rw [cs_u hr (by omega), show acc = -1 by omega, jn_n, ← m1, ← e1]; exact ih (k + 1) (g 13 c (x * 3 + k) + g 9 e (s * 9 + y + k * 3)) _ _ _ (by omega) (by omega) (by omega) (by omega))
                | (rw [cs_u hr (by omega), jn_l (by omega) (by omega) (by omega)]; exact ih (k + 1) acc _ _ _ (by omega) (by omega) (by omega) (by omega))
                | (rw [cs_u hr (by omega), jn_r (by omega) (by omega) (by omega), ← m1, ← e1]; exact ih (k + 1) (g 13 c (x * 3 + k) + g 9 e (s * 9 + y + k * 3)) _ _ _ (by omega) (by omega) (by omega) (by omega))
          · refine o_iload (n := 83) rfl rfl rfl ?_
            refine o_iload (n := 85) rfl rfl rfl ?_
            refine o_icmp_ge (n := 88) (t := 102) rfl rfl rfl (fun h85 => ?_) (fun h85 => ?_)
            · refine o_iinc_7 (n := 105) rfl rfl rfl (by omega) ?_
              refine o_goto (t := 15) rfl rfl ?_
              rw [clp_s]
              first
                | (rw [cs_t hr (by omega), jn_m]; exact ih (k + 1) acc _ _ _ (by omega) (by omega) (by omega) (by omega))
                | (rw [cs_u hr (by omega), show acc = -1 by omega, jn_n, ← m1, ← e1]; exact ih (k + 1) (g 13 c (x * 3 + k) + g 9 e (s * 9 + y + k * 3)) _ _ _ (by omega) (by omega) (by omega) (by omega))
                | (rw [cs_u hr (by omega), jn_l (by omega) (by omega) (by omega)]; exact ih (k + 1) acc _ _ _ (by omega) (by omega) (by omega) (by omega))
                | (rw [cs_u hr (by omega), jn_r (by omega) (by omega) (by omega), ← m1, ← e1]; exact ih (k + 1) (g 13 c (x * 3 + k) + g 9 e (s * 9 + y + k * 3)) _ _ _ (by omega) (by omega) (by omega) (by omega))
            · refine o_goto (t := 98) rfl rfl ?_
              refine o_iload (n := 100) rfl rfl rfl ?_
              refine o_istore_6 (n := 102) rfl rfl rfl ?_
              refine o_iinc_7 (n := 105) rfl rfl rfl (by omega) ?_
              refine o_goto (t := 15) rfl rfl ?_
              rw [clp_s]
              first
                | (rw [cs_t hr (by omega), jn_m]; exact ih (k + 1) acc _ _ _ (by omega) (by omega) (by omega) (by omega))
                | (rw [cs_u hr (by omega), show acc = -1 by omega, jn_n, ← m1, ← e1]; exact ih (k + 1) (g 13 c (x * 3 + k) + g 9 e (s * 9 + y + k * 3)) _ _ _ (by omega) (by omega) (by omega) (by omega))
                | (rw [cs_u hr (by omega), jn_l (by omega) (by omega) (by omega)]; exact ih (k + 1) acc _ _ _ (by omega) (by omega) (by omega) (by omega))
                | (rw [cs_u hr (by omega), jn_r (by omega) (by omega) (by omega), ← m1, ← e1]; exact ih (k + 1) (g 13 c (x * 3 + k) + g 9 e (s * 9 + y + k * 3)) _ _ _ (by omega) (by omega) (by omega) (by omega))
theorem c0_best (hS : am_St r) {e c : Int} (he : 0 ≤ e) (he1 : e < 10) (hc : 0 ≤ c) (hc1 : c < 4) (hx : 0 ≤ x) (hx1 : x < 3) (hs : 0 ≤ s) (hs1 : s < 4) (hy : 0 ≤ y) (hy1 : y < 3) (hn : g 0 e 1 = n) (hn0 : 1 ≤ n) (hn1 : n ≤ 3) (hE : ∀ z, 0 ≤ z → z < n → g 9 e (s * 9 + y + z * 3) = Es z y ∧ -1 ≤ Es z y ∧ Es z y ≤ 999) (C : Int) (hC : C ≤ 99999) (hM : ∀ z, 0 ≤ z → z < n → g 13 c (x * 3 + z) = M x z ∧ -1 ≤ M x z ∧ M x z ≤ C) (hq : g 0 e 0 = ρ) (hr : ρ ≠ 0) : Rt 11 [vR 0 e, vR 13 c, vI x, vI s, vI y] g r (some (vI (cl ρ n M Es x y))) g r := by
  refine rt_of ?_
  show Ou 11 0 [vR 0 e, vR 13 c, vI x, vI s, vI y, vN, vN, vN, vN, vN, vN] [] g r _
  refine o_iload_n (n := 1) rfl rfl rfl ?_
  refine o_bipush (n := 3) rfl rfl ?_
  refine o_imul (n := 4) rfl rfl (by omega) ?_
  refine o_iload (n := 6) rfl rfl rfl ?_
  refine o_iadd (n := 7) rfl rfl (by omega) ?_
  refine o_istore_5 (n := 9) rfl rfl rfl ?_
  refine o_iconst (n := 10) rfl rfl ?_
  refine o_istore_6 (n := 12) rfl rfl rfl ?_
  refine o_iconst (n := 13) rfl rfl ?_
  refine o_istore_7 (n := 15) rfl rfl rfl ?_
  rw [show cl ρ n M Es x y = clp ρ M Es x y n.toNat 0 (-1) from by unfold cl; rw [cif_f hr]]
  exact l0_best hS he he1 hc hc1 hx hx1 hs hs1 hy hy1 hn hn0 hn1 hE C hC hM hq hr _ 0 (-1) _ _ _ (by omega) (by omega) (by omega) (by omega)
theorem l8_cell (hS : am_St r) {d : Int} (hd : 0 ≤ d) (hd1 : d < 9) (hx : 0 ≤ x) (hx1 : x < 3) (hs : 0 ≤ s) (hs1 : s < 4) (hy : 0 ≤ y) (hy1 : y < 3) (hn : g 28 0 d = n) (hn0 : 1 ≤ n) (hn1 : n ≤ 3) (hq : g 27 0 d = ρ) (hE : ∀ z, 0 ≤ z → z < n → g 26 0 (36 * d + 9 * s + 3 * z + y) = Es z y ∧ -1 ≤ Es z y ∧ Es z y ≤ 999) (C : Int) (hC : C ≤ 99999) (hM : ∀ z, 0 ≤ z → z < n → g 30 0 (3 * x + z) = M x z ∧ (ρ = 0 → 0 ≤ M x z ∧ M x z ≤ 2147483647) ∧ (ρ ≠ 0 → -1 ≤ M x z ∧ M x z ≤ C)) : ∀ (m : Nat) (k acc : Int) (t9 ta t11 tb : AV), (0 ≤ k) → (k + m = n) → (ρ = 0 → 0 ≤ acc ∧ acc ≤ k * 2145336163353) → (ρ ≠ 0 → -1 ≤ acc ∧ (acc ≤ C + 999 ∨ acc = -1)) → Ou 136 25 [vR 8 0, vI d, vI s, vI x, vI y, vI ρ, vL acc, vN, vI k, t9, ta, t11, tb] [] g r (Rq (some (vL (clp ρ M Es x y m k acc))) g r) := by
  intro m
  induction m with
  | zero =>
    intro k acc t9 ta t11 tb i0 i1 i2 i3
    refine o_iload (n := 27) rfl rfl rfl ?_
    refine o_aload_n (n := 28) rfl rfl rfl ?_
    refine of_8_18 (n := 31) hS rfl rfl ?_
    refine o_iload_n (n := 32) rfl rfl rfl ?_
    refine o_iald (n := 33) (L := 9) rfl rfl rfl rfl rfl (by omega) (by omega) ?_
    refine o_icmp_ge (n := 36) (t := 149) rfl rfl rfl (fun h33 => ?_) (fun h33 => (by exfalso; omega))
    refine o_lload (n := 151) rfl rfl rfl ?_
    refine o_lret rfl ?_
    first | (exfalso; omega; done) | exact ⟨rfl, rfl, rfl⟩
  | succ m ih =>
    intro k acc t9 ta t11 tb i0 i1 i2 i3
    obtain ⟨m1, m2, m3⟩ := hM k i0 (by omega)
    obtain ⟨e1, e2, e3⟩ := hE k i0 (by omega)
    refine o_iload (n := 27) rfl rfl rfl ?_
    refine o_aload_n (n := 28) rfl rfl rfl ?_
    refine of_8_18 (n := 31) hS rfl rfl ?_
    refine o_iload_n (n := 32) rfl rfl rfl ?_
    refine o_iald (n := 33) (L := 9) rfl rfl rfl rfl rfl (by omega) (by omega) ?_
    refine o_icmp_ge (n := 36) (t := 149) rfl rfl rfl (fun h33 => (by exfalso; omega)) (fun h33 => ?_)
    refine o_aload_n (n := 37) rfl rfl rfl ?_
    refine of_8_21 (n := 40) hS rfl rfl ?_
    refine o_iconst (n := 41) rfl rfl ?_
    refine o_iload_n (n := 42) rfl rfl rfl ?_
    refine o_imul (n := 43) rfl rfl (by omega) ?_
    refine o_iload (n := 45) rfl rfl rfl ?_
    refine o_iadd (n := 46) rfl rfl (by omega) ?_
    refine o_lald (n := 47) (L := 9) rfl rfl rfl rfl rfl (by omega) (by omega) ?_
    refine o_lstore_9 (n := 49) rfl rfl rfl ?_
    refine o_aload_n (n := 50) rfl rfl rfl ?_
    refine of_8_16 (n := 53) hS rfl rfl ?_
    refine o_bipush (n := 55) rfl rfl ?_
    refine o_iload_n (n := 56) rfl rfl rfl ?_
    refine o_imul (n := 57) rfl rfl (by omega) ?_
    refine o_bipush (n := 59) rfl rfl ?_
    refine o_iload_n (n := 60) rfl rfl rfl ?_
    refine o_imul (n := 61) rfl rfl (by omega) ?_
    refine o_iadd (n := 62) rfl rfl (by omega) ?_
    refine o_iconst (n := 63) rfl rfl ?_
    refine o_iload (n := 65) rfl rfl rfl ?_
    refine o_imul (n := 66) rfl rfl (by omega) ?_
    refine o_iadd (n := 67) rfl rfl (by omega) ?_
    refine o_iload (n := 69) rfl rfl rfl ?_
    refine o_iadd (n := 70) rfl rfl (by omega) ?_
    refine o_iald (n := 71) (L := 324) rfl rfl rfl rfl rfl (by omega) (by omega) ?_
    refine o_i2l (n := 72) rfl rfl ?_
    refine o_lstore_11 (n := 74) rfl rfl rfl ?_
    refine o_iload (n := 76) rfl rfl rfl ?_
    refine o_if_ne (n := 79) (t := 105) rfl rfl rfl (fun h76 => ?_) (fun h76 => ?_)
    · refine o_iload (n := 107) rfl rfl rfl ?_
      refine o_lload (n := 109) rfl rfl rfl ?_
      refine o_lload (n := 111) rfl rfl rfl ?_
      refine o_ldc2_w (n := 114) rfl rfl ?_
      refine o_lcmp_eq (n := 118) (t := 127) rfl rfl rfl rfl (fun h114 => ?_) (fun h114 => ?_)
      · refine o_ldc2_w (n := 130) rfl rfl ?_
        refine o_goto (t := 138) rfl rfl ?_
        refine o_invsi (n := 141) rfl rfl rfl rfl rfl rfl (c8_joined _ _ _) ?_
        refine o_lstore_6 (n := 143) rfl rfl rfl ?_
        refine o_iinc_8 (n := 146) rfl rfl rfl (by omega) ?_
        refine o_goto (t := 25) rfl rfl ?_
        rw [clp_s]
        first
          | (have hz : ρ = 0 := by omega
             subst hz
             rw [cs_n0 (by omega)]; have := i2 rfl; exact ih (k + 1) (acc + 0) _ _ _ _ (by omega) (by omega) (fun _ => by omega) (fun z => absurd rfl z))
          | (have hz : ρ = 0 := by omega
             subst hz
             have h2 := i2 rfl; have h3 := m2 rfl
             rw [cs_n (by omega), m1, e1]
             have hb := ml_b (a := M x k) (b := Es k y) (A := 2147483647) (B := 999) h3.1 h3.2 (by omega) e3
             exact ih (k + 1) (acc + M x k * Es k y) _ _ _ _ (by omega) (by omega) (fun _ => by omega) (fun z => absurd rfl z))
          | (have hr : ρ ≠ 0 := by omega
             have h2 := i3 hr; have h3 := m3 hr
             rw [cs_t hr (by omega)]
             have hb := jn_b (ρ := ρ) (a := acc) (b := -1) (C := 100998) (by omega) (by omega) (by omega) (by omega)
             rw [jn_m] at hb ⊢
             exact ih (k + 1) acc _ _ _ _ (by omega) (by omega) (fun z => absurd z hr) (fun _ => by omega))
          | (have hr : ρ ≠ 0 := by omega
             have h2 := i3 hr; have h3 := m3 hr
             rw [cs_u hr (by omega), m1, e1]
             have hb := jn_b (ρ := ρ) (a := acc) (b := M x k + Es k y) (C := cif (C + 999 < 0) (-1) (C + 999)) (by omega) (by first | (rw [cif_f (by omega)]; omega) | (rw [cif_t (by omega)]; omega)) (by omega) (by first | (rw [cif_f (by omega)]; omega) | (rw [cif_t (by omega)]; omega))
             exact ih (k + 1) (jn ρ acc (M x k + Es k y)) _ _ _ _ (by omega) (by omega) (fun z => absurd z hr) (fun _ => by first | (rw [cif_f (by omega)] at hb; omega) | (rw [cif_t (by omega)] at hb; omega)))
      · refine o_lload (n := 120) rfl rfl rfl ?_
        refine o_ldc2_w (n := 123) rfl rfl ?_
        refine o_lcmp_ne (n := 127) (t := 133) rfl rfl rfl rfl (fun h123 => ?_) (fun h123 => ?_)
        · refine o_lload (n := 135) rfl rfl rfl ?_
          refine o_lload (n := 137) rfl rfl rfl ?_
          refine o_laddN (n := 138) rfl rfl (by have := m3 (by omega); omega) ?_
          refine o_invsi (n := 141) rfl rfl rfl rfl rfl rfl (c8_joined _ _ _) ?_
          refine o_lstore_6 (n := 143) rfl rfl rfl ?_
          refine o_iinc_8 (n := 146) rfl rfl rfl (by omega) ?_
          refine o_goto (t := 25) rfl rfl ?_
          rw [clp_s]
          first
            | (have hz : ρ = 0 := by omega
               subst hz
               rw [cs_n0 (by omega)]; have := i2 rfl; exact ih (k + 1) (acc + 0) _ _ _ _ (by omega) (by omega) (fun _ => by omega) (fun z => absurd rfl z))
            | (have hz : ρ = 0 := by omega
               subst hz
               have h2 := i2 rfl; have h3 := m2 rfl
               rw [cs_n (by omega), m1, e1]
               have hb := ml_b (a := M x k) (b := Es k y) (A := 2147483647) (B := 999) h3.1 h3.2 (by omega) e3
               exact ih (k + 1) (acc + M x k * Es k y) _ _ _ _ (by omega) (by omega) (fun _ => by omega) (fun z => absurd rfl z))
            | (have hr : ρ ≠ 0 := by omega
               have h2 := i3 hr; have h3 := m3 hr
               rw [cs_t hr (by omega)]
               have hb := jn_b (ρ := ρ) (a := acc) (b := -1) (C := 100998) (by omega) (by omega) (by omega) (by omega)
               rw [jn_m] at hb ⊢
               exact ih (k + 1) acc _ _ _ _ (by omega) (by omega) (fun z => absurd z hr) (fun _ => by omega))
            | (have hr : ρ ≠ 0 := by omega
               have h2 := i3 hr; have h3 := m3 hr
               rw [cs_u hr (by omega), m1, e1]
               have hb := jn_b (ρ := ρ) (a := acc) (b := M x k + Es k y) (C := cif (C + 999 < 0) (-1) (C + 999)) (by omega) (by first | (rw [cif_f (by omega)]; omega) | (rw [cif_t (by omega)]; omega)) (by omega) (by first | (rw [cif_f (by omega)]; omega) | (rw [cif_t (by omega)]; omega))
               exact ih (k + 1) (jn ρ acc (M x k + Es k y)) _ _ _ _ (by omega) (by omega) (fun z => absurd z hr) (fun _ => by first | (rw [cif_f (by omega)] at hb; omega) | (rw [cif_t (by omega)] at hb; omega)))
        · refine o_ldc2_w (n := 130) rfl rfl ?_
          refine o_goto (t := 138) rfl rfl ?_
          refine o_invsi (n := 141) rfl rfl rfl rfl rfl rfl (c8_joined _ _ _) ?_
          refine o_lstore_6 (n := 143) rfl rfl rfl ?_
          refine o_iinc_8 (n := 146) rfl rfl rfl (by omega) ?_
          refine o_goto (t := 25) rfl rfl ?_
          rw [clp_s]
          first
            | (have hz : ρ = 0 := by omega
               subst hz
               rw [cs_n0 (by omega)]; have := i2 rfl; exact ih (k + 1) (acc + 0) _ _ _ _ (by omega) (by omega) (fun _ => by omega) (fun z => absurd rfl z))
            | (have hz : ρ = 0 := by omega
               subst hz
               have h2 := i2 rfl; have h3 := m2 rfl
               rw [cs_n (by omega), m1, e1]
               have hb := ml_b (a := M x k) (b := Es k y) (A := 2147483647) (B := 999) h3.1 h3.2 (by omega) e3
               exact ih (k + 1) (acc + M x k * Es k y) _ _ _ _ (by omega) (by omega) (fun _ => by omega) (fun z => absurd rfl z))
            | (have hr : ρ ≠ 0 := by omega
               have h2 := i3 hr; have h3 := m3 hr
               rw [cs_t hr (by omega)]
               have hb := jn_b (ρ := ρ) (a := acc) (b := -1) (C := 100998) (by omega) (by omega) (by omega) (by omega)
               rw [jn_m] at hb ⊢
               exact ih (k + 1) acc _ _ _ _ (by omega) (by omega) (fun z => absurd z hr) (fun _ => by omega))
            | (have hr : ρ ≠ 0 := by omega
               have h2 := i3 hr; have h3 := m3 hr
               rw [cs_u hr (by omega), m1, e1]
               have hb := jn_b (ρ := ρ) (a := acc) (b := M x k + Es k y) (C := cif (C + 999 < 0) (-1) (C + 999)) (by omega) (by first | (rw [cif_f (by omega)]; omega) | (rw [cif_t (by omega)]; omega)) (by omega) (by first | (rw [cif_f (by omega)]; omega) | (rw [cif_t (by omega)]; omega))
               exact ih (k + 1) (jn ρ acc (M x k + Es k y)) _ _ _ _ (by omega) (by omega) (fun z => absurd z hr) (fun _ => by first | (rw [cif_f (by omega)] at hb; omega) | (rw [cif_t (by omega)] at hb; omega)))
    · refine o_lload (n := 81) rfl rfl rfl ?_
      refine o_lload (n := 83) rfl rfl rfl ?_
      refine o_ldc2_w (n := 86) rfl rfl ?_
      refine o_lcmp_ne (n := 90) (t := 94) rfl rfl rfl rfl (fun h86 => ?_) (fun h86 => ?_)
      · refine o_lload (n := 96) rfl rfl rfl ?_
        refine o_lload (n := 98) rfl rfl rfl ?_
        refine o_lmulN (n := 99) rfl rfl (by rw [m1, e1]; have := m2 (by omega); have := ml_b (a := M x k) (b := Es k y) (A := 2147483647) (B := 999) (by omega) (by omega) (by omega) e3; omega) ?_
        refine o_laddN (n := 100) rfl rfl (by first | (have := i2 (by omega); omega) | (have h2 := i2 (by omega); have h3 := m2 (by omega); rw [m1, e1]; have := ml_b (a := M x k) (b := Es k y) (A := 2147483647) (B := 999) (by omega) (by omega) (by omega) e3; omega)) ?_
        refine o_lstore_6 (n := 102) rfl rfl rfl ?_
        refine o_goto (t := 143) rfl rfl ?_
        refine o_iinc_8 (n := 146) rfl rfl rfl (by omega) ?_
        refine o_goto (t := 25) rfl rfl ?_
        rw [clp_s]
        first
          | (have hz : ρ = 0 := by omega
             subst hz
             rw [cs_n0 (by omega)]; have := i2 rfl; exact ih (k + 1) (acc + 0) _ _ _ _ (by omega) (by omega) (fun _ => by omega) (fun z => absurd rfl z))
          | (have hz : ρ = 0 := by omega
             subst hz
             have h2 := i2 rfl; have h3 := m2 rfl
             rw [cs_n (by omega), m1, e1]
             have hb := ml_b (a := M x k) (b := Es k y) (A := 2147483647) (B := 999) h3.1 h3.2 (by omega) e3
             exact ih (k + 1) (acc + M x k * Es k y) _ _ _ _ (by omega) (by omega) (fun _ => by omega) (fun z => absurd rfl z))
          | (have hr : ρ ≠ 0 := by omega
             have h2 := i3 hr; have h3 := m3 hr
             rw [cs_t hr (by omega)]
             have hb := jn_b (ρ := ρ) (a := acc) (b := -1) (C := 100998) (by omega) (by omega) (by omega) (by omega)
             rw [jn_m] at hb ⊢
             exact ih (k + 1) acc _ _ _ _ (by omega) (by omega) (fun z => absurd z hr) (fun _ => by omega))
          | (have hr : ρ ≠ 0 := by omega
             have h2 := i3 hr; have h3 := m3 hr
             rw [cs_u hr (by omega), m1, e1]
             have hb := jn_b (ρ := ρ) (a := acc) (b := M x k + Es k y) (C := cif (C + 999 < 0) (-1) (C + 999)) (by omega) (by first | (rw [cif_f (by omega)]; omega) | (rw [cif_t (by omega)]; omega)) (by omega) (by first | (rw [cif_f (by omega)]; omega) | (rw [cif_t (by omega)]; omega))
             exact ih (k + 1) (jn ρ acc (M x k + Es k y)) _ _ _ _ (by omega) (by omega) (fun z => absurd z hr) (fun _ => by first | (rw [cif_f (by omega)] at hb; omega) | (rw [cif_t (by omega)] at hb; omega)))
      · refine o_lconst (n := 91) rfl rfl ?_
        refine o_goto (t := 99) rfl rfl ?_
        refine o_laddN (n := 100) rfl rfl (by first | (have := i2 (by omega); omega) | (have h2 := i2 (by omega); have h3 := m2 (by omega); rw [m1, e1]; have := ml_b (a := M x k) (b := Es k y) (A := 2147483647) (B := 999) (by omega) (by omega) (by omega) e3; omega)) ?_
        refine o_lstore_6 (n := 102) rfl rfl rfl ?_
        refine o_goto (t := 143) rfl rfl ?_
        refine o_iinc_8 (n := 146) rfl rfl rfl (by omega) ?_
        refine o_goto (t := 25) rfl rfl ?_
        rw [clp_s]
        first
          | (have hz : ρ = 0 := by omega
             subst hz
             rw [cs_n0 (by omega)]; have := i2 rfl; exact ih (k + 1) (acc + 0) _ _ _ _ (by omega) (by omega) (fun _ => by omega) (fun z => absurd rfl z))
          | (have hz : ρ = 0 := by omega
             subst hz
             have h2 := i2 rfl; have h3 := m2 rfl
             rw [cs_n (by omega), m1, e1]
             have hb := ml_b (a := M x k) (b := Es k y) (A := 2147483647) (B := 999) h3.1 h3.2 (by omega) e3
             exact ih (k + 1) (acc + M x k * Es k y) _ _ _ _ (by omega) (by omega) (fun _ => by omega) (fun z => absurd rfl z))
          | (have hr : ρ ≠ 0 := by omega
             have h2 := i3 hr; have h3 := m3 hr
             rw [cs_t hr (by omega)]
             have hb := jn_b (ρ := ρ) (a := acc) (b := -1) (C := 100998) (by omega) (by omega) (by omega) (by omega)
             rw [jn_m] at hb ⊢
             exact ih (k + 1) acc _ _ _ _ (by omega) (by omega) (fun z => absurd z hr) (fun _ => by omega))
          | (have hr : ρ ≠ 0 := by omega
             have h2 := i3 hr; have h3 := m3 hr
             rw [cs_u hr (by omega), m1, e1]
             have hb := jn_b (ρ := ρ) (a := acc) (b := M x k + Es k y) (C := cif (C + 999 < 0) (-1) (C + 999)) (by omega) (by first | (rw [cif_f (by omega)]; omega) | (rw [cif_t (by omega)]; omega)) (by omega) (by first | (rw [cif_f (by omega)]; omega) | (rw [cif_t (by omega)]; omega))
             exact ih (k + 1) (jn ρ acc (M x k + Es k y)) _ _ _ _ (by omega) (by omega) (fun z => absurd z hr) (fun _ => by first | (rw [cif_f (by omega)] at hb; omega) | (rw [cif_t (by omega)] at hb; omega)))
theorem c8_cell (hS : am_St r) {d : Int} (hd : 0 ≤ d) (hd1 : d < 9) (hx : 0 ≤ x) (hx1 : x < 3) (hs : 0 ≤ s) (hs1 : s < 4) (hy : 0 ≤ y) (hy1 : y < 3) (hn : g 28 0 d = n) (hn0 : 1 ≤ n) (hn1 : n ≤ 3) (hq : g 27 0 d = ρ) (hE : ∀ z, 0 ≤ z → z < n → g 26 0 (36 * d + 9 * s + 3 * z + y) = Es z y ∧ -1 ≤ Es z y ∧ Es z y ≤ 999) (C : Int) (hC : C ≤ 99999) (hM : ∀ z, 0 ≤ z → z < n → g 30 0 (3 * x + z) = M x z ∧ (ρ = 0 → 0 ≤ M x z ∧ M x z ≤ 2147483647) ∧ (ρ ≠ 0 → -1 ≤ M x z ∧ M x z ≤ C)) : Rt 136 [vR 8 0, vI d, vI s, vI x, vI y] g r (some (vL (cl ρ n M Es x y))) g r := by
  refine rt_of ?_
  show Ou 136 0 [vR 8 0, vI d, vI s, vI x, vI y, vN, vN, vN, vN, vN, vN, vN, vN] [] g r _
  refine o_aload_n (n := 1) rfl rfl rfl ?_
  refine of_8_17 (n := 4) hS rfl rfl ?_
  refine o_iload_n (n := 5) rfl rfl rfl ?_
  refine o_iald (n := 6) (L := 9) rfl rfl rfl rfl rfl (by omega) (by omega) ?_
  refine o_istore_5 (n := 8) rfl rfl rfl ?_
  rw [hq]
  refine o_iload (n := 10) rfl rfl rfl ?_
  refine o_if_ne (n := 13) (t := 17) rfl rfl rfl (fun h10 => ?_) (fun h10 => ?_)
  · refine o_ldc2_w (n := 20) rfl rfl ?_
    refine o_lstore_6 (n := 22) rfl rfl rfl ?_
    refine o_iconst (n := 23) rfl rfl ?_
    refine o_istore_8 (n := 25) rfl rfl rfl ?_
    first
      | (rw [show cl ρ n M Es x y = clp ρ M Es x y n.toNat 0 0 from by unfold cl; rw [cif_t (by omega)]]; exact l8_cell hS hd hd1 hx hx1 hs hs1 hy hy1 hn hn0 hn1 hq hE C hC hM _ 0 0 _ _ _ _ (by omega) (by omega) (fun _ => by omega) (fun _ => by omega))
      | (rw [show cl ρ n M Es x y = clp ρ M Es x y n.toNat 0 (-1) from by unfold cl; rw [cif_f (by omega)]]; exact l8_cell hS hd hd1 hx hx1 hs hs1 hy hy1 hn hn0 hn1 hq hE C hC hM _ 0 (-1) _ _ _ _ (by omega) (by omega) (fun _ => by omega) (fun _ => by omega))
  · refine o_lconst (n := 14) rfl rfl ?_
    refine o_goto (t := 20) rfl rfl ?_
    refine o_lstore_6 (n := 22) rfl rfl rfl ?_
    refine o_iconst (n := 23) rfl rfl ?_
    refine o_istore_8 (n := 25) rfl rfl rfl ?_
    first
      | (rw [show cl ρ n M Es x y = clp ρ M Es x y n.toNat 0 0 from by unfold cl; rw [cif_t (by omega)]]; exact l8_cell hS hd hd1 hx hx1 hs hs1 hy hy1 hn hn0 hn1 hq hE C hC hM _ 0 0 _ _ _ _ (by omega) (by omega) (fun _ => by omega) (fun _ => by omega))
      | (rw [show cl ρ n M Es x y = clp ρ M Es x y n.toNat 0 (-1) from by unfold cl; rw [cif_f (by omega)]]; exact l8_cell hS hd hd1 hx hx1 hs hs1 hy hy1 hn hn0 hn1 hq hE C hC hM _ 0 (-1) _ _ _ _ (by omega) (by omega) (fun _ => by omega) (fun _ => by omega))
end CELL
