/-! bits, stages, tries: contracts. Written by wip/gen/gen18.py -/
/-- bit i of a number, as an int has it -/
def tb (x : Int) (i : Nat) : Bool := (Int32.ofInt x).toBitVec.getLsbD i
theorem tb_ext {x y : Int} (hx : inI x) (hy : inI y) (h : ∀ i, i < 32 → tb x i = tb y i) : x = y := by
  have e : Int32.ofInt x = Int32.ofInt y := by
    apply Int32.toBitVec.inj
    apply BitVec.eq_of_getLsbD_eq
    intro i hi
    exact h i hi
  exact (am_eqI hx hy).mp e
theorem tb_and (x y : Int) (i : Nat) : tb (am_and x y) i = (tb x i && tb y i) := by
  unfold tb am_and
  rw [Int32.ofInt_toInt, Int32.toBitVec_and, BitVec.getLsbD_and]
theorem tb_or (x y : Int) (i : Nat) : tb (am_or x y) i = (tb x i || tb y i) := by
  unfold tb am_or
  rw [Int32.ofInt_toInt, Int32.toBitVec_or, BitVec.getLsbD_or]
theorem tb_xor (x y : Int) (i : Nat) : tb (am_xor x y) i = (tb x i ^^ tb y i) := by
  unfold tb am_xor
  rw [Int32.ofInt_toInt, Int32.toBitVec_xor, BitVec.getLsbD_xor]
theorem tb_m1 : ∀ i, i < 32 → tb (-1) i = true := by decide +kernel
theorem tb_0 (i : Nat) : tb 0 i = false := by
  unfold tb
  show (0#32).getLsbD i = false
  simp
theorem tb_1 : ∀ i, i < 32 → tb 1 i = decide (i = 0) := by decide +kernel
theorem inI_and (x y : Int) : inI (am_and x y) := am_i32 _
theorem inI_or (x y : Int) : inI (am_or x y) := am_i32 _
theorem inI_xor (x y : Int) : inI (am_xor x y) := am_i32 _
theorem and_nor (x a b : Int) : am_and x (am_xor (am_or a b) (-1)) = am_and (am_and x (am_xor a (-1))) (am_xor b (-1)) := by
  refine tb_ext (inI_and _ _) (inI_and _ _) (fun i hi => ?_)
  simp only [tb_and, tb_xor, tb_or, tb_m1 i hi]
  cases tb x i <;> cases tb a i <;> cases tb b i <;> rfl
theorem and_not0 {x : Int} (hx : inI x) : am_and x (am_xor 0 (-1)) = x := by
  refine tb_ext (inI_and _ _) hx (fun i hi => ?_)
  simp only [tb_and, tb_xor, tb_0, tb_m1 i hi]
  cases tb x i <;> rfl
theorem or_0 {x : Int} (hx : inI x) : am_or x 0 = x := by
  refine tb_ext (inI_or _ _) hx (fun i hi => ?_)
  simp only [tb_or, tb_0]
  cases tb x i <;> rfl
theorem and1_01 (x : Int) : am_and x 1 = 0 ∨ am_and x 1 = 1 := by
  by_cases h : tb x 0 = true
  · refine Or.inr (tb_ext (inI_and _ _) ⟨by omega, by omega⟩ (fun i hi => ?_))
    rw [tb_and, tb_1 i hi]
    by_cases e : i = 0
    · subst e; rw [h]; rfl
    · simp [e]
  · refine Or.inl (tb_ext (inI_and _ _) ⟨by omega, by omega⟩ (fun i hi => ?_))
    rw [tb_and, tb_1 i hi, tb_0]
    by_cases e : i = 0
    · subst e; simp at h; rw [h]; rfl
    · simp [e]
theorem bt_ne {x k : Int} : am_and (am_shr x k) 1 ≠ 0 ↔ bt x k := by
  unfold bt
  rcases and1_01 (am_shr x k) with h | h <;> rw [h] <;> decide
theorem bt_eq {x k : Int} : am_and (am_shr x k) 1 = 0 ↔ ¬ bt x k := by
  unfold bt
  rcases and1_01 (am_shr x k) with h | h <;> rw [h] <;> decide
theorem shl_k : ∀ n : Nat, n < 9 → 1 ≤ am_shl 1 (n : Int) ∧ am_shl 1 (n : Int) ≤ 256 := by decide +kernel
theorem shl_b {n : Int} (h0 : 0 ≤ n) (h1 : n ≤ 8) : 1 ≤ am_shl 1 n ∧ am_shl 1 n ≤ 256 := by
  obtain ⟨k, rfl⟩ := Int.eq_ofNat_of_zero_le h0
  exact shl_k k (by omega)
theorem ml_b {a b A B : Int} (h0 : 0 ≤ a) (h1 : a ≤ A) (h2 : 0 ≤ b) (h3 : b ≤ B) : 0 ≤ a * b ∧ a * b ≤ A * B := ⟨Int.mul_nonneg h0 h2, Int.mul_le_mul h1 h3 h2 (by omega)⟩
/-- rules removed by the first n stages; those not removed -/
def rb (rem : Int → Int) (n : Nat) (k b : Int) : Int := lp n k (fun j x => am_or x (rem j)) b
def lb (rem : Int → Int) (n : Nat) (k b : Int) : Int := lp n k (fun j x => am_and x (am_xor (rem j) (-1))) b
theorem lp_map {α β : Type} (f : Int → α → α) (h : Int → β → β) (T : α → β) (hT : ∀ j b, T (f j b) = h j (T b)) (n : Nat) : ∀ (k : Int) (b : α), T (lp n k f b) = lp n k h (T b) := by
  induction n with
  | zero => intro k b; rfl
  | succ n ih =>
    intro k b
    have e1 : lp (n + 1) k f b = lp n (k + 1) f (f k b) := rfl
    have e2 : lp (n + 1) k h (T b) = lp n (k + 1) h (h k (T b)) := rfl
    rw [e1, e2, ih, hT]
theorem lb_rb (rem : Int → Int) (A : Int) (n : Nat) (k b : Int) : am_and A (am_xor (rb rem n k b) (-1)) = lb rem n k (am_and A (am_xor b (-1))) := lp_map (fun j x => am_or x (rem j)) (fun j x => am_and x (am_xor (rem j) (-1))) (fun b => am_and A (am_xor b (-1))) (fun j b => and_nor A b (rem j)) n k b
theorem lb_congr {rem rem' : Int → Int} {n : Nat} {k b : Int} (h : ∀ j, k ≤ j → j < k + n → rem j = rem' j) : lb rem n k b = lb rem' n k b := lp_congr (fun j y h1 h2 => by rw [h j h1 h2])
theorem lb_inI {rem : Int → Int} : ∀ {n : Nat} {k b : Int}, inI b → inI (lb rem n k b)
  | 0, _, _, h => h
  | n + 1, k, b, _ => lb_inI (n := n) (k := k + 1) (inI_and _ _)
/-- all of n rules -/
def ab (n : Int) : Int := am_shl 1 n - 1
/-- the component's and the reference's removals -/
def rm7 (g r : GI) (j : Int) : Int := g 4 (r 15 0 j) 1
def rm8 (g : GI) (j : Int) : Int := g 29 0 j
section BITS
variable {g r : GI}
theorem c8_allRules (h0 : 0 ≤ g 8 0 8) (h1 : g 8 0 8 ≤ 8) : Rt 142 [vR 8 0] g r (some (vI (ab (g 8 0 8)))) g r := by
  refine rt_of ?_
  show Ou 142 0 [vR 8 0] [] g r _
  refine o_iconst (n := 1) rfl rfl ?_
  refine o_aload_n (n := 2) rfl rfl rfl ?_
  refine o_geti (n := 5) rfl rfl rfl rfl rfl ?_
  refine o_ishl (n := 6) rfl rfl ?_
  refine o_iconst (n := 7) rfl rfl ?_
  refine o_isub (n := 8) rfl rfl (by have := shl_b h0 h1; omega) ?_
  refine o_iret rfl rfl ?_
  first | (exfalso; omega; done) | exact ⟨rfl, rfl, rfl⟩
theorem c7_allBits (h0 : 0 ≤ g 7 0 10) (h1 : g 7 0 10 ≤ 8) : Rt 95 [vR 7 0] g r (some (vI (ab (g 7 0 10)))) g r := by
  refine rt_of ?_
  show Ou 95 0 [vR 7 0] [] g r _
  refine o_iconst (n := 1) rfl rfl ?_
  refine o_aload_n (n := 2) rfl rfl rfl ?_
  refine o_geti (n := 5) rfl rfl rfl rfl rfl ?_
  refine o_ishl (n := 6) rfl rfl ?_
  refine o_iconst (n := 7) rfl rfl ?_
  refine o_isub (n := 8) rfl rfl (by have := shl_b h0 h1; omega) ?_
  refine o_iret rfl rfl ?_
  first | (exfalso; omega; done) | exact ⟨rfl, rfl, rfl⟩
theorem l7_removedBefore (hS : am_St r) (hR : am_Rg r) (e : Int) (he : e ≤ 8) : ∀ (n : Nat) (k b : Int), (0 ≤ k) → (k + n = e) → Ou 96 4 [vR 7 0, vI e, vI b, vI k] [] g r (Rq (some (vI (rb (rm7 g r) n k b))) g r) := by
  intro n
  induction n with
  | zero =>
    intro k b i0 i1
    refine o_iload_n (n := 5) rfl rfl rfl ?_
    refine o_iload_n (n := 6) rfl rfl rfl ?_
    refine o_icmp_ge (n := 9) (t := 27) rfl rfl rfl (fun h6 => ?_) (fun h6 => (by exfalso; omega))
    refine o_iload_n (n := 28) rfl rfl rfl ?_
    refine o_iret rfl rfl ?_
    first | (exfalso; omega; done) | exact ⟨rfl, rfl, rfl⟩
  | succ n ih =>
    intro k b i0 i1
    refine o_iload_n (n := 5) rfl rfl rfl ?_
    refine o_iload_n (n := 6) rfl rfl rfl ?_
    refine o_icmp_ge (n := 9) (t := 27) rfl rfl rfl (fun h6 => (by exfalso; omega)) (fun h6 => ?_)
    refine o_iload_n (n := 10) rfl rfl rfl ?_
    refine o_aload_n (n := 11) rfl rfl rfl ?_
    refine of_7_3 (n := 14) hS rfl rfl ?_
    refine o_iload_n (n := 15) rfl rfl rfl ?_
    refine o_ra15 (n := 16) hR rfl rfl (by omega) (by omega) (fun hA15 hB15 => ?_)
    refine o_geti (n := 19) rfl rfl rfl (ok_4 (by omega) (by omega)) rfl ?_
    refine o_ior (n := 20) rfl rfl ?_
    refine o_istore_2 (n := 21) rfl rfl rfl ?_
    refine o_iinc_3 (n := 24) rfl rfl rfl (by omega) ?_
    refine o_goto (t := 4) rfl rfl ?_
    exact ih (k + 1) (am_or b (rm7 g r k)) (by omega) (by omega)
theorem c7_removedBefore (hS : am_St r) (hR : am_Rg r) (e : Int) (he0 : 0 ≤ e) (he : e ≤ 8) : Rt 96 [vR 7 0, vI e] g r (some (vI (rb (rm7 g r) e.toNat 0 0))) g r := by
  refine rt_of ?_
  show Ou 96 0 [vR 7 0, vI e, vN, vN] [] g r _
  refine o_iconst (n := 1) rfl rfl ?_
  refine o_istore_2 (n := 2) rfl rfl rfl ?_
  refine o_iconst (n := 3) rfl rfl ?_
  refine o_istore_3 (n := 4) rfl rfl rfl ?_
  exact l7_removedBefore hS hR e he _ 0 0 (by omega) (by omega)
theorem ab_inI {n : Int} (h0 : 0 ≤ n) (h1 : n ≤ 8) : inI (ab n) := by have := shl_b h0 h1; unfold ab; omega
def st7 (g r : GI) (k : Int) : Int := lb (rm7 g r) k.toNat 0 (ab (g 7 0 10))
def st8 (g : GI) (k : Int) : Int := lb (rm8 g) k.toNat 0 (ab (g 8 0 8))
theorem c7_standingBits (hS : am_St r) (hR : am_Rg r) (h0 : 0 ≤ g 7 0 10) (h1 : g 7 0 10 ≤ 8) (hs0 : 0 ≤ g 7 0 11) (hs1 : g 7 0 11 ≤ 8) : Rt 97 [vR 7 0] g r (some (vI (st7 g r (g 7 0 11)))) g r := by
  refine rt_of ?_
  show Ou 97 0 [vR 7 0] [] g r _
  refine o_aload_n (n := 1) rfl rfl rfl ?_
  refine o_invi (n := 4) rfl rfl rfl rfl rfl rfl rfl rfl rfl rfl (c7_allBits h0 h1) ?_
  refine o_aload_n (n := 5) rfl rfl rfl ?_
  refine o_aload_n (n := 6) rfl rfl rfl ?_
  refine o_geti (n := 9) rfl rfl rfl rfl rfl ?_
  refine o_invi (n := 12) rfl rfl rfl rfl rfl rfl rfl rfl rfl rfl (c7_removedBefore hS hR _ hs0 hs1) ?_
  refine o_iconst (n := 13) rfl rfl ?_
  refine o_ixor (n := 14) rfl rfl ?_
  refine o_iand (n := 15) rfl rfl ?_
  refine o_iret rfl rfl ?_
  first | (exfalso; omega; done) | exact ⟨by rw [lb_rb, and_not0 (ab_inI h0 h1)]; rfl, rfl, rfl⟩
theorem l8_leftBehind (hS : am_St r) (e : Int) (he : e ≤ 8) : ∀ (n : Nat) (k b : Int), (0 ≤ k) → (k + n = e) → Ou 143 7 [vR 8 0, vI e, vI b, vI k] [] g r (Rq (some (vI (lb (rm8 g) n k b))) g r) := by
  intro n
  induction n with
  | zero =>
    intro k b i0 i1
    refine o_iload_n (n := 8) rfl rfl rfl ?_
    refine o_iload_n (n := 9) rfl rfl rfl ?_
    refine o_icmp_ge (n := 12) (t := 29) rfl rfl rfl (fun h9 => ?_) (fun h9 => (by exfalso; omega))
    refine o_iload_n (n := 30) rfl rfl rfl ?_
    refine o_iret rfl rfl ?_
    first | (exfalso; omega; done) | exact ⟨rfl, rfl, rfl⟩
  | succ n ih =>
    intro k b i0 i1
    refine o_iload_n (n := 8) rfl rfl rfl ?_
    refine o_iload_n (n := 9) rfl rfl rfl ?_
    refine o_icmp_ge (n := 12) (t := 29) rfl rfl rfl (fun h9 => (by exfalso; omega)) (fun h9 => ?_)
    refine o_iload_n (n := 13) rfl rfl rfl ?_
    refine o_aload_n (n := 14) rfl rfl rfl ?_
    refine of_8_20 (n := 17) hS rfl rfl ?_
    refine o_iload_n (n := 18) rfl rfl rfl ?_
    refine o_iald (n := 19) (L := 8) rfl rfl rfl rfl rfl (by omega) (by omega) ?_
    refine o_iconst (n := 20) rfl rfl ?_
    refine o_ixor (n := 21) rfl rfl ?_
    refine o_iand (n := 22) rfl rfl ?_
    refine o_istore_2 (n := 23) rfl rfl rfl ?_
    refine o_iinc_3 (n := 26) rfl rfl rfl (by omega) ?_
    refine o_goto (t := 7) rfl rfl ?_
    exact ih (k + 1) (am_and b (am_xor (rm8 g k) (-1))) (by omega) (by omega)
theorem c8_leftBehind (hS : am_St r) (h0 : 0 ≤ g 8 0 8) (h1 : g 8 0 8 ≤ 8) (e : Int) (he0 : 0 ≤ e) (he : e ≤ 8) : Rt 143 [vR 8 0, vI e] g r (some (vI (st8 g e))) g r := by
  refine rt_of ?_
  show Ou 143 0 [vR 8 0, vI e, vN, vN] [] g r _
  refine o_aload_n (n := 1) rfl rfl rfl ?_
  refine o_invi (n := 4) rfl rfl rfl rfl rfl rfl rfl rfl rfl rfl (c8_allRules h0 h1) ?_
  refine o_istore_2 (n := 5) rfl rfl rfl ?_
  refine o_iconst (n := 6) rfl rfl ?_
  refine o_istore_3 (n := 7) rfl rfl rfl ?_
  exact l8_leftBehind hS e he _ 0 _ (by omega) (by omega)
theorem l7_removedBy (hS : am_St r) (hR : am_Rg r) (hs0 : 0 ≤ g 7 0 11) (hs1 : g 7 0 11 ≤ 8) (i : Int) : ∀ (n : Nat) (k : Int), (0 ≤ k) → (k + n = g 7 0 11) → Ou 98 2 [vR 7 0, vI i, vI k] [] g r (Rq (some (vI (fi n k (fun j => bt (rm7 g r j) i) (-1)))) g r) := by
  intro n
  induction n with
  | zero =>
    intro k i0 i1
    refine o_iload_n (n := 3) rfl rfl rfl ?_
    refine o_aload_n (n := 4) rfl rfl rfl ?_
    refine o_geti (n := 7) rfl rfl rfl rfl rfl ?_
    refine o_icmp_ge (n := 10) (t := 34) rfl rfl rfl (fun h7 => ?_) (fun h7 => (by exfalso; omega))
    refine o_iconst (n := 35) rfl rfl ?_
    refine o_iret rfl rfl ?_
    first | (exfalso; omega; done) | exact ⟨rfl, rfl, rfl⟩
  | succ n ih =>
    intro k i0 i1
    refine o_iload_n (n := 3) rfl rfl rfl ?_
    refine o_aload_n (n := 4) rfl rfl rfl ?_
    refine o_geti (n := 7) rfl rfl rfl rfl rfl ?_
    refine o_icmp_ge (n := 10) (t := 34) rfl rfl rfl (fun h7 => (by exfalso; omega)) (fun h7 => ?_)
    refine o_aload_n (n := 11) rfl rfl rfl ?_
    refine of_7_3 (n := 14) hS rfl rfl ?_
    refine o_iload_n (n := 15) rfl rfl rfl ?_
    refine o_ra15 (n := 16) hR rfl rfl (by omega) (by omega) (fun hA15 hB15 => ?_)
    refine o_geti (n := 19) rfl rfl rfl (ok_4 (by omega) (by omega)) rfl ?_
    refine o_iload_n (n := 20) rfl rfl rfl ?_
    refine o_ishr (n := 21) rfl rfl ?_
    refine o_iconst (n := 22) rfl rfl ?_
    refine o_iand (n := 23) rfl rfl ?_
    refine o_if_eq (n := 26) (t := 28) rfl rfl rfl (fun h23 => ?_) (fun h23 => ?_)
    · refine o_iinc_2 (n := 31) rfl rfl rfl (by omega) ?_
      refine o_goto (t := 2) rfl rfl ?_
      rw [fi_f (p := fun j => bt (rm7 g r j) i) (bt_eq.mp h23)]
      exact ih (k + 1) (by omega) (by omega)
    · refine o_iload_n (n := 27) rfl rfl rfl ?_
      refine o_iret rfl rfl ?_
      first | (exfalso; omega; done) | exact ⟨by rw [fi_t (p := fun j => bt (rm7 g r j) i) (bt_ne.mp h23)], rfl, rfl⟩
theorem c7_removedBy (hS : am_St r) (hR : am_Rg r) (hs0 : 0 ≤ g 7 0 11) (hs1 : g 7 0 11 ≤ 8) (i : Int) : Rt 98 [vR 7 0, vI i] g r (some (vI (fi (g 7 0 11).toNat 0 (fun j => bt (rm7 g r j) i) (-1)))) g r := by
  refine rt_of ?_
  show Ou 98 0 [vR 7 0, vI i, vN] [] g r _
  refine o_iconst (n := 1) rfl rfl ?_
  refine o_istore_2 (n := 2) rfl rfl rfl ?_
  exact l7_removedBy hS hR hs0 hs1 i _ 0 (by omega) (by omega)
theorem l8_removedBy (hS : am_St r) (hs0 : 0 ≤ g 8 0 19) (hs1 : g 8 0 19 ≤ 8) (i : Int) : ∀ (n : Nat) (k : Int), (0 ≤ k) → (k + n = g 8 0 19) → Ou 144 2 [vR 8 0, vI i, vI k] [] g r (Rq (some (vI (fi n k (fun j => bt (rm8 g j) i) (-1)))) g r) := by
  intro n
  induction n with
  | zero =>
    intro k i0 i1
    refine o_iload_n (n := 3) rfl rfl rfl ?_
    refine o_aload_n (n := 4) rfl rfl rfl ?_
    refine o_geti (n := 7) rfl rfl rfl rfl rfl ?_
    refine o_icmp_ge (n := 10) (t := 31) rfl rfl rfl (fun h7 => ?_) (fun h7 => (by exfalso; omega))
    refine o_iconst (n := 32) rfl rfl ?_
    refine o_iret rfl rfl ?_
    first | (exfalso; omega; done) | exact ⟨rfl, rfl, rfl⟩
  | succ n ih =>
    intro k i0 i1
    refine o_iload_n (n := 3) rfl rfl rfl ?_
    refine o_aload_n (n := 4) rfl rfl rfl ?_
    refine o_geti (n := 7) rfl rfl rfl rfl rfl ?_
    refine o_icmp_ge (n := 10) (t := 31) rfl rfl rfl (fun h7 => (by exfalso; omega)) (fun h7 => ?_)
    refine o_aload_n (n := 11) rfl rfl rfl ?_
    refine of_8_20 (n := 14) hS rfl rfl ?_
    refine o_iload_n (n := 15) rfl rfl rfl ?_
    refine o_iald (n := 16) (L := 8) rfl rfl rfl rfl rfl (by omega) (by omega) ?_
    refine o_iload_n (n := 17) rfl rfl rfl ?_
    refine o_invsi (n := 20) rfl rfl rfl rfl rfl rfl (c8_isIn _ _) ?_
    refine o_ifb_eq (n := 23) (t := 25) rfl rfl rfl (fun h20 => ?_) (fun h20 => ?_)
    · refine o_iinc_2 (n := 28) rfl rfl rfl (by omega) ?_
      refine o_goto (t := 2) rfl rfl ?_
      rw [fi_f (p := fun j => bt (rm8 g j) i) h20]
      exact ih (k + 1) (by omega) (by omega)
    · refine o_iload_n (n := 24) rfl rfl rfl ?_
      refine o_iret rfl rfl ?_
      first | (exfalso; omega; done) | exact ⟨by rw [fi_t (p := fun j => bt (rm8 g j) i) h20], rfl, rfl⟩
theorem c8_removedBy (hS : am_St r) (hs0 : 0 ≤ g 8 0 19) (hs1 : g 8 0 19 ≤ 8) (i : Int) : Rt 144 [vR 8 0, vI i] g r (some (vI (fi (g 8 0 19).toNat 0 (fun j => bt (rm8 g j) i) (-1)))) g r := by
  refine rt_of ?_
  show Ou 144 0 [vR 8 0, vI i, vN] [] g r _
  refine o_iconst (n := 1) rfl rfl ?_
  refine o_istore_2 (n := 2) rfl rfl rfl ?_
  exact l8_removedBy hS hs0 hs1 i _ 0 (by omega) (by omega)
def ss7 (g r : GI) (b j : Int) : Prop := bt b j ∧ g 2 (r 14 0 j) 2 ≠ 0
theorem l7_strictStanding (hS : am_St r) (hR : am_Rg r) (h0 : 0 ≤ g 7 0 10) (h1 : g 7 0 10 ≤ 8) (b : Int) : ∀ (n : Nat) (k x : Int), (0 ≤ k) → (k + n = g 7 0 10) → (0 ≤ x) → (x ≤ k) → Ou 99 9 [vR 7 0, vI b, vI x, vI k] [] g r (Rq (some (vI (ctn (ss7 g r b) n k x))) g r) := by
  intro n
  induction n with
  | zero =>
    intro k x i0 i1 i2 i3
    refine o_iload_n (n := 10) rfl rfl rfl ?_
    refine o_aload_n (n := 11) rfl rfl rfl ?_
    refine o_geti (n := 14) rfl rfl rfl rfl rfl ?_
    refine o_icmp_ge (n := 17) (t := 46) rfl rfl rfl (fun h14 => ?_) (fun h14 => (by exfalso; omega))
    refine o_iload_n (n := 47) rfl rfl rfl ?_
    refine o_iret rfl rfl ?_
    first | (exfalso; omega; done) | exact ⟨rfl, rfl, rfl⟩
  | succ n ih =>
    intro k x i0 i1 i2 i3
    refine o_iload_n (n := 10) rfl rfl rfl ?_
    refine o_aload_n (n := 11) rfl rfl rfl ?_
    refine o_geti (n := 14) rfl rfl rfl rfl rfl ?_
    refine o_icmp_ge (n := 17) (t := 46) rfl rfl rfl (fun h14 => (by exfalso; omega)) (fun h14 => ?_)
    refine o_iload_n (n := 18) rfl rfl rfl ?_
    refine o_iload_n (n := 19) rfl rfl rfl ?_
    refine o_ishr (n := 20) rfl rfl ?_
    refine o_iconst (n := 21) rfl rfl ?_
    refine o_iand (n := 22) rfl rfl ?_
    refine o_if_eq (n := 25) (t := 40) rfl rfl rfl (fun h22 => ?_) (fun h22 => ?_)
    · refine o_iinc_3 (n := 43) rfl rfl rfl (by omega) ?_
      refine o_goto (t := 9) rfl rfl ?_
      rw [ctn_s]
      first | (rw [bi_t (show ss7 g r b k from ⟨bt_ne.mp h22, h34⟩)]; exact ih (k + 1) (x + 1) (by omega) (by omega) (by omega) (by omega)) | (rw [bi_f (fun z : ss7 g r b k => bt_eq.mp h22 z.1), Int.add_zero]; exact ih (k + 1) x (by omega) (by omega) (by omega) (by omega)) | (rw [bi_f (fun z : ss7 g r b k => z.2 h34), Int.add_zero]; exact ih (k + 1) x (by omega) (by omega) (by omega) (by omega))
    · refine o_aload_n (n := 26) rfl rfl rfl ?_
      refine of_7_2 (n := 29) hS rfl rfl ?_
      refine o_iload_n (n := 30) rfl rfl rfl ?_
      refine o_ra14 (n := 31) hR rfl rfl (by omega) (by omega) (fun hA30 hB30 => ?_)
      refine o_geti (n := 34) rfl rfl rfl (ok_2 (by omega) (by omega)) rfl ?_
      refine o_if_eq (n := 37) (t := 40) rfl rfl rfl (fun h34 => ?_) (fun h34 => ?_)
      · refine o_iinc_3 (n := 43) rfl rfl rfl (by omega) ?_
        refine o_goto (t := 9) rfl rfl ?_
        rw [ctn_s]
        first | (rw [bi_t (show ss7 g r b k from ⟨bt_ne.mp h22, h34⟩)]; exact ih (k + 1) (x + 1) (by omega) (by omega) (by omega) (by omega)) | (rw [bi_f (fun z : ss7 g r b k => bt_eq.mp h22 z.1), Int.add_zero]; exact ih (k + 1) x (by omega) (by omega) (by omega) (by omega)) | (rw [bi_f (fun z : ss7 g r b k => z.2 h34), Int.add_zero]; exact ih (k + 1) x (by omega) (by omega) (by omega) (by omega))
      · refine o_iinc_2 (n := 40) rfl rfl rfl (by omega) ?_
        refine o_iinc_3 (n := 43) rfl rfl rfl (by omega) ?_
        refine o_goto (t := 9) rfl rfl ?_
        rw [ctn_s]
        first | (rw [bi_t (show ss7 g r b k from ⟨bt_ne.mp h22, h34⟩)]; exact ih (k + 1) (x + 1) (by omega) (by omega) (by omega) (by omega)) | (rw [bi_f (fun z : ss7 g r b k => bt_eq.mp h22 z.1), Int.add_zero]; exact ih (k + 1) x (by omega) (by omega) (by omega) (by omega)) | (rw [bi_f (fun z : ss7 g r b k => z.2 h34), Int.add_zero]; exact ih (k + 1) x (by omega) (by omega) (by omega) (by omega))
theorem c7_strictStanding (hS : am_St r) (hR : am_Rg r) (h0 : 0 ≤ g 7 0 10) (h1 : g 7 0 10 ≤ 8) (hs0 : 0 ≤ g 7 0 11) (hs1 : g 7 0 11 ≤ 8) : Rt 99 [vR 7 0] g r (some (vI (ctn (ss7 g r (st7 g r (g 7 0 11))) (g 7 0 10).toNat 0 0))) g r := by
  refine rt_of ?_
  show Ou 99 0 [vR 7 0, vN, vN, vN] [] g r _
  refine o_aload_n (n := 1) rfl rfl rfl ?_
  refine o_invi (n := 4) rfl rfl rfl rfl rfl rfl rfl rfl rfl rfl (c7_standingBits hS hR h0 h1 hs0 hs1) ?_
  refine o_istore_1 (n := 5) rfl rfl rfl ?_
  refine o_iconst (n := 6) rfl rfl ?_
  refine o_istore_2 (n := 7) rfl rfl rfl ?_
  refine o_iconst (n := 8) rfl rfl ?_
  refine o_istore_3 (n := 9) rfl rfl rfl ?_
  exact l7_strictStanding hS hR h0 h1 _ _ 0 0 (by omega) (by omega) (by omega) (by omega)
theorem l8_strictLeft (hS : am_St r) (h0 : 0 ≤ g 8 0 8) (h1 : g 8 0 8 ≤ 8) (hs0 : 0 ≤ g 8 0 19) (hs1 : g 8 0 19 ≤ 8) : ∀ (n : Nat) (k x : Int), (0 ≤ k) → (k + n = g 8 0 8) → (0 ≤ x) → (x ≤ k) → Ou 167 4 [vR 8 0, vI x, vI k] [] g r (Rq (some (vI (ctn (fun j => bt (am_and (st8 g (g 8 0 19)) (g 8 0 12)) j) n k x))) g r) := by
  intro n
  induction n with
  | zero =>
    intro k x i0 i1 i2 i3
    refine o_iload_n (n := 5) rfl rfl rfl ?_
    refine o_aload_n (n := 6) rfl rfl rfl ?_
    refine o_geti (n := 9) rfl rfl rfl rfl rfl ?_
    refine o_icmp_ge (n := 12) (t := 46) rfl rfl rfl (fun h9 => ?_) (fun h9 => (by exfalso; omega))
    refine o_iload_n (n := 47) rfl rfl rfl ?_
    refine o_iret rfl rfl ?_
    first | (exfalso; omega; done) | exact ⟨rfl, rfl, rfl⟩
  | succ n ih =>
    intro k x i0 i1 i2 i3
    refine o_iload_n (n := 5) rfl rfl rfl ?_
    refine o_aload_n (n := 6) rfl rfl rfl ?_
    refine o_geti (n := 9) rfl rfl rfl rfl rfl ?_
    refine o_icmp_ge (n := 12) (t := 46) rfl rfl rfl (fun h9 => (by exfalso; omega)) (fun h9 => ?_)
    refine o_iload_n (n := 13) rfl rfl rfl ?_
    refine o_aload_n (n := 14) rfl rfl rfl ?_
    refine o_aload_n (n := 15) rfl rfl rfl ?_
    refine o_geti (n := 18) rfl rfl rfl rfl rfl ?_
    refine o_invi (n := 21) rfl rfl rfl rfl rfl rfl rfl rfl rfl rfl (c8_leftBehind hS h0 h1 _ hs0 hs1) ?_
    refine o_aload_n (n := 22) rfl rfl rfl ?_
    refine o_geti (n := 25) rfl rfl rfl rfl rfl ?_
    refine o_iand (n := 26) rfl rfl ?_
    refine o_iload_n (n := 27) rfl rfl rfl ?_
    refine o_invsi (n := 30) rfl rfl rfl rfl rfl rfl (c8_isIn _ _) ?_
    refine o_ifb_eq (n := 33) (t := 37) rfl rfl rfl (fun h30 => ?_) (fun h30 => ?_)
    · refine o_iconst (n := 38) rfl rfl ?_
      refine o_iadd (n := 39) rfl rfl (by omega) ?_
      refine o_istore_1 (n := 40) rfl rfl rfl ?_
      refine o_iinc_2 (n := 43) rfl rfl rfl (by omega) ?_
      refine o_goto (t := 4) rfl rfl ?_
      rw [ctn_s]
      first | (rw [bi_t h30]; exact ih (k + 1) (x + 1) (by omega) (by omega) (by omega) (by omega)) | (rw [bi_f h30]; exact ih (k + 1) (x + 0) (by omega) (by omega) (by omega) (by omega))
    · refine o_iconst (n := 34) rfl rfl ?_
      refine o_goto (t := 38) rfl rfl ?_
      refine o_iadd (n := 39) rfl rfl (by omega) ?_
      refine o_istore_1 (n := 40) rfl rfl rfl ?_
      refine o_iinc_2 (n := 43) rfl rfl rfl (by omega) ?_
      refine o_goto (t := 4) rfl rfl ?_
      rw [ctn_s]
      first | (rw [bi_t h30]; exact ih (k + 1) (x + 1) (by omega) (by omega) (by omega) (by omega)) | (rw [bi_f h30]; exact ih (k + 1) (x + 0) (by omega) (by omega) (by omega) (by omega))
theorem c8_strictLeft (hS : am_St r) (h0 : 0 ≤ g 8 0 8) (h1 : g 8 0 8 ≤ 8) (hs0 : 0 ≤ g 8 0 19) (hs1 : g 8 0 19 ≤ 8) : Rt 167 [vR 8 0] g r (some (vI (ctn (fun j => bt (am_and (st8 g (g 8 0 19)) (g 8 0 12)) j) (g 8 0 8).toNat 0 0))) g r := by
  refine rt_of ?_
  show Ou 167 0 [vR 8 0, vN, vN] [] g r _
  refine o_iconst (n := 1) rfl rfl ?_
  refine o_istore_1 (n := 2) rfl rfl rfl ?_
  refine o_iconst (n := 3) rfl rfl ?_
  refine o_istore_2 (n := 4) rfl rfl rfl ?_
  exact l8_strictLeft hS h0 h1 hs0 hs1 _ 0 0 (by omega) (by omega) (by omega) (by omega)
theorem l8_rulesLeft (hS : am_St r) (h0 : 0 ≤ g 8 0 8) (h1 : g 8 0 8 ≤ 8) (hs0 : 0 ≤ g 8 0 19) (hs1 : g 8 0 19 ≤ 8) : ∀ (n : Nat) (k x : Int), (0 ≤ k) → (k + n = g 8 0 8) → (0 ≤ x) → (x ≤ k) → Ou 186 4 [vR 8 0, vI x, vI k] [] g r (Rq (some (vI (ctn (fun j => bt (st8 g (g 8 0 19)) j) n k x))) g r) := by
  intro n
  induction n with
  | zero =>
    intro k x i0 i1 i2 i3
    refine o_iload_n (n := 5) rfl rfl rfl ?_
    refine o_aload_n (n := 6) rfl rfl rfl ?_
    refine o_geti (n := 9) rfl rfl rfl rfl rfl ?_
    refine o_icmp_ge (n := 12) (t := 41) rfl rfl rfl (fun h9 => ?_) (fun h9 => (by exfalso; omega))
    refine o_iload_n (n := 42) rfl rfl rfl ?_
    refine o_iret rfl rfl ?_
    first | (exfalso; omega; done) | exact ⟨rfl, rfl, rfl⟩
  | succ n ih =>
    intro k x i0 i1 i2 i3
    refine o_iload_n (n := 5) rfl rfl rfl ?_
    refine o_aload_n (n := 6) rfl rfl rfl ?_
    refine o_geti (n := 9) rfl rfl rfl rfl rfl ?_
    refine o_icmp_ge (n := 12) (t := 41) rfl rfl rfl (fun h9 => (by exfalso; omega)) (fun h9 => ?_)
    refine o_iload_n (n := 13) rfl rfl rfl ?_
    refine o_aload_n (n := 14) rfl rfl rfl ?_
    refine o_aload_n (n := 15) rfl rfl rfl ?_
    refine o_geti (n := 18) rfl rfl rfl rfl rfl ?_
    refine o_invi (n := 21) rfl rfl rfl rfl rfl rfl rfl rfl rfl rfl (c8_leftBehind hS h0 h1 _ hs0 hs1) ?_
    refine o_iload_n (n := 22) rfl rfl rfl ?_
    refine o_invsi (n := 25) rfl rfl rfl rfl rfl rfl (c8_isIn _ _) ?_
    refine o_ifb_eq (n := 28) (t := 32) rfl rfl rfl (fun h25 => ?_) (fun h25 => ?_)
    · refine o_iconst (n := 33) rfl rfl ?_
      refine o_iadd (n := 34) rfl rfl (by omega) ?_
      refine o_istore_1 (n := 35) rfl rfl rfl ?_
      refine o_iinc_2 (n := 38) rfl rfl rfl (by omega) ?_
      refine o_goto (t := 4) rfl rfl ?_
      rw [ctn_s]
      first | (rw [bi_t h25]; exact ih (k + 1) (x + 1) (by omega) (by omega) (by omega) (by omega)) | (rw [bi_f h25]; exact ih (k + 1) (x + 0) (by omega) (by omega) (by omega) (by omega))
    · refine o_iconst (n := 29) rfl rfl ?_
      refine o_goto (t := 33) rfl rfl ?_
      refine o_iadd (n := 34) rfl rfl (by omega) ?_
      refine o_istore_1 (n := 35) rfl rfl rfl ?_
      refine o_iinc_2 (n := 38) rfl rfl rfl (by omega) ?_
      refine o_goto (t := 4) rfl rfl ?_
      rw [ctn_s]
      first | (rw [bi_t h25]; exact ih (k + 1) (x + 1) (by omega) (by omega) (by omega) (by omega)) | (rw [bi_f h25]; exact ih (k + 1) (x + 0) (by omega) (by omega) (by omega) (by omega))
theorem c8_rulesLeft (hS : am_St r) (h0 : 0 ≤ g 8 0 8) (h1 : g 8 0 8 ≤ 8) (hs0 : 0 ≤ g 8 0 19) (hs1 : g 8 0 19 ≤ 8) : Rt 186 [vR 8 0] g r (some (vI (ctn (fun j => bt (st8 g (g 8 0 19)) j) (g 8 0 8).toNat 0 0))) g r := by
  refine rt_of ?_
  show Ou 186 0 [vR 8 0, vN, vN] [] g r _
  refine o_iconst (n := 1) rfl rfl ?_
  refine o_istore_1 (n := 2) rfl rfl rfl ?_
  refine o_iconst (n := 3) rfl rfl ?_
  refine o_istore_2 (n := 4) rfl rfl rfl ?_
  exact l8_rulesLeft hS h0 h1 hs0 hs1 _ 0 0 (by omega) (by omega) (by omega) (by omega)
theorem c8_endsNow (hS : am_St r) (h0 : 0 ≤ g 8 0 8) (h1 : g 8 0 8 ≤ 8) (hs0 : 0 ≤ g 8 0 19) (hs1 : g 8 0 19 ≤ 8) : Rt 168 [vR 8 0] g r (some (vI (bi (ctn (fun j => bt (am_and (st8 g (g 8 0 19)) (g 8 0 12)) j) (g 8 0 8).toNat 0 0 = 0)))) g r := by
  refine rt_of ?_
  show Ou 168 0 [vR 8 0] [] g r _
  refine o_aload_n (n := 1) rfl rfl rfl ?_
  refine o_invi (n := 4) rfl rfl rfl rfl rfl rfl rfl rfl rfl rfl (c8_strictLeft hS h0 h1 hs0 hs1) ?_
  refine o_if_ne (n := 7) (t := 11) rfl rfl rfl (fun h4 => ?_) (fun h4 => ?_)
  · refine o_iconst (n := 12) rfl rfl ?_
    refine o_iret rfl rfl ?_
    first | (exfalso; omega; done) | exact ⟨by first | rw [bi_t (by assumption)] | rw [bi_f (by assumption)], rfl, rfl⟩
  · refine o_iconst (n := 8) rfl rfl ?_
    refine o_goto (t := 12) rfl rfl ?_
    refine o_iret rfl rfl ?_
    first | (exfalso; omega; done) | exact ⟨by first | rw [bi_t (by assumption)] | rw [bi_f (by assumption)], rfl, rfl⟩
theorem c7_bit1 (q : Prop) (hq : q) : Rt 84 [vI (bi q)] g r (some (vI (bi q))) g r := by
  refine rt_of ?_
  show Ou 84 0 [vI (bi q)] [] g r _
  rw [bi_t hq]
  refine o_iload_n (n := 1) rfl rfl rfl ?_
  refine o_if_eq (n := 4) (t := 8) rfl rfl rfl (fun h1 => ?_) (fun h1 => ?_)
  · refine o_iconst (n := 9) rfl rfl ?_
    refine o_iret rfl rfl ?_
    first | (exfalso; omega; done) | exact ⟨rfl, rfl, rfl⟩
  · refine o_iconst (n := 5) rfl rfl ?_
    refine o_goto (t := 9) rfl rfl ?_
    refine o_iret rfl rfl ?_
    first | (exfalso; omega; done) | exact ⟨rfl, rfl, rfl⟩
theorem c7_bit0 (q : Prop) (hq : ¬ q) : Rt 84 [vI (bi q)] g r (some (vI (bi q))) g r := by
  refine rt_of ?_
  show Ou 84 0 [vI (bi q)] [] g r _
  rw [bi_f hq]
  refine o_iload_n (n := 1) rfl rfl rfl ?_
  refine o_if_eq (n := 4) (t := 8) rfl rfl rfl (fun h1 => ?_) (fun h1 => ?_)
  · refine o_iconst (n := 9) rfl rfl ?_
    refine o_iret rfl rfl ?_
    first | (exfalso; omega; done) | exact ⟨rfl, rfl, rfl⟩
  · refine o_iconst (n := 5) rfl rfl ?_
    refine o_goto (t := 9) rfl rfl ?_
    refine o_iret rfl rfl ?_
    first | (exfalso; omega; done) | exact ⟨rfl, rfl, rfl⟩
theorem c7_bit (q : Prop) : Rt 84 [vI (bi q)] g r (some (vI (bi q))) g r := by
  by_cases h : q
  · exact c7_bit1 q h
  · exact c7_bit0 q h
/-- tries: the loop's way -/
noncomputable def tr (b : Int) : Nat → Int → Int
  | 0, x => x
  | n + 1, x => cif (x ≤ 8192) (tr b n (x * (b + 1))) x
theorem tr_r {b : Int} (hb : 1 ≤ b) (hb1 : b ≤ 9) : ∀ {n : Nat} {x : Int}, 1 ≤ x → x ≤ 81920 → 1 ≤ tr b n x ∧ tr b n x ≤ 81920
  | 0, _, h1, h2 => ⟨h1, h2⟩
  | n + 1, x, h1, h2 => by
    by_cases h : x ≤ 8192
    · rw [show tr b (n + 1) x = tr b n (x * (b + 1)) from cif_t h]
      have := ml_b (a := x) (b := b + 1) (A := 8192) (B := 10) (by omega) h (by omega) (by omega)
      have h3 : x * 1 ≤ x * (b + 1) := Int.mul_le_mul_of_nonneg_left (by omega) (by omega)
      exact tr_r hb hb1 (by omega) (by omega)
    · rw [show tr b (n + 1) x = x from cif_f h]; exact ⟨h1, h2⟩
theorem l7_triesWith (b : Int) (hb : 1 ≤ b) (hb1 : b ≤ 9) (e : Int) (he : e ≤ 36) : ∀ (n : Nat) (k x : Int), (0 ≤ k) → (k + n = e) → (1 ≤ x) → (x ≤ 81920) → Ou 104 26 [vR 7 0, vI b, vI e, vI x, vI k] [] g r (Rq (some (vI (tr b n x))) g r) := by
  intro n
  induction n with
  | zero =>
    intro k x i0 i1 i2 i3
    refine o_iload (n := 28) rfl rfl rfl ?_
    refine o_iload_n (n := 29) rfl rfl rfl ?_
    refine o_icmp_ge (n := 32) (t := 51) rfl rfl rfl (fun h29 => ?_) (fun h29 => (by exfalso; omega))
    refine o_iload_n (n := 52) rfl rfl rfl ?_
    refine o_iret rfl rfl ?_
    first | (exfalso; omega; done) | exact ⟨rfl, rfl, rfl⟩
  | succ n ih =>
    intro k x i0 i1 i2 i3
    refine o_iload (n := 28) rfl rfl rfl ?_
    refine o_iload_n (n := 29) rfl rfl rfl ?_
    refine o_icmp_ge (n := 32) (t := 51) rfl rfl rfl (fun h29 => (by exfalso; omega)) (fun h29 => ?_)
    refine o_iload_n (n := 33) rfl rfl rfl ?_
    refine o_sipush (n := 36) rfl rfl ?_
    refine o_icmp_gt (n := 39) (t := 51) rfl rfl rfl (fun h36 => ?_) (fun h36 => ?_)
    · refine o_iload_n (n := 52) rfl rfl rfl ?_
      refine o_iret rfl rfl ?_
      first | (exfalso; omega; done) | exact ⟨by rw [show tr b (n + 1) x = x from cif_f (by omega)], rfl, rfl⟩
    · refine o_iload_n (n := 40) rfl rfl rfl ?_
      refine o_iload_n (n := 41) rfl rfl rfl ?_
      refine o_iconst (n := 42) rfl rfl ?_
      refine o_iadd (n := 43) rfl rfl (by omega) ?_
      refine o_imul (n := 44) rfl rfl (by have := ml_b (a := x) (b := b + 1) (A := 8192) (B := 10) (by omega) (by omega) (by omega) (by omega); omega) ?_
      refine o_istore_3 (n := 45) rfl rfl rfl ?_
      refine o_iinc_4 (n := 48) rfl rfl rfl (by omega) ?_
      refine o_goto (t := 26) rfl rfl ?_
      rw [show tr b (n + 1) x = tr b n (x * (b + 1)) from cif_t h36]
      have h3 : x * 1 ≤ x * (b + 1) := Int.mul_le_mul_of_nonneg_left (by omega) (by omega)
      have h4 := ml_b (a := x) (b := b + 1) (A := 8192) (B := 10) (by omega) (by omega) (by omega) (by omega)
      exact ih (k + 1) (x * (b + 1)) (by omega) (by omega) (by omega) (by omega)
theorem c7_triesWith (hS : am_St r) (b : Int) (hb : 1 ≤ b) (hb1 : b ≤ 9) (hm0 : 1 ≤ g 7 0 9) (hm1 : g 7 0 9 ≤ 4) (hz0 : 1 ≤ g 0 0 1) (hz1 : g 0 0 1 ≤ 3) : Rt 104 [vR 7 0, vI b] g r (some (vI (tr b (g 7 0 9 * g 0 0 1 * g 0 0 1).toNat 1))) g r := by
  refine rt_of ?_
  show Ou 104 0 [vR 7 0, vI b, vN, vN, vN] [] g r _
  have e1 := ml_b (a := g 7 0 9) (b := g 0 0 1) (A := 4) (B := 3) (by omega) hm1 (by omega) hz1
  have e2 := ml_b (a := g 7 0 9 * g 0 0 1) (b := g 0 0 1) (A := 4 * 3) (B := 3) e1.1 e1.2 (by omega) hz1
  refine o_aload_n (n := 1) rfl rfl rfl ?_
  refine o_geti (n := 4) rfl rfl rfl rfl rfl ?_
  refine o_aload_n (n := 5) rfl rfl rfl ?_
  refine of_7_5 (n := 8) hS rfl rfl ?_
  refine o_geti (n := 11) rfl rfl rfl (ok_0 (by omega) (by omega)) rfl ?_
  refine o_imul (n := 12) rfl rfl (by omega) ?_
  refine o_aload_n (n := 13) rfl rfl rfl ?_
  refine of_7_5 (n := 16) hS rfl rfl ?_
  refine o_geti (n := 19) rfl rfl rfl (ok_0 (by omega) (by omega)) rfl ?_
  refine o_imul (n := 20) rfl rfl (by omega) ?_
  refine o_istore_2 (n := 21) rfl rfl rfl ?_
  refine o_iconst (n := 22) rfl rfl ?_
  refine o_istore_3 (n := 23) rfl rfl rfl ?_
  refine o_iconst (n := 24) rfl rfl ?_
  refine o_istore_4 (n := 26) rfl rfl rfl ?_
  exact l7_triesWith b hb hb1 _ (by omega) _ 0 1 (by omega) (by omega) (by omega) (by omega)
theorem l8_triesOf (hS : am_St r) (b : Int) (hb : 1 ≤ b) (hb1 : b ≤ 9) (hm0 : 1 ≤ g 8 0 5) (hm1 : g 8 0 5 ≤ 4) (hz0 : 1 ≤ g 28 0 8) (hz1 : g 28 0 8 ≤ 3) : ∀ (n : Nat) (k x : Int), (0 ≤ k) → (k + n = (g 8 0 5 * g 28 0 8 * g 28 0 8)) → (1 ≤ x) → (x ≤ 81920) → Ou 170 4 [vR 8 0, vI b, vI x, vI k] [] g r (Rq (some (vI (tr b n x))) g r) := by
  intro n
  induction n with
  | zero =>
    intro k x i0 i1 i2 i3
    have e1 := ml_b (a := g 8 0 5) (b := g 28 0 8) (A := 4) (B := 3) (by omega) hm1 (by omega) hz1
    have e2 := ml_b (a := g 8 0 5 * g 28 0 8) (b := g 28 0 8) (A := 4 * 3) (B := 3) e1.1 e1.2 (by omega) hz1
    refine o_iload_n (n := 5) rfl rfl rfl ?_
    refine o_aload_n (n := 6) rfl rfl rfl ?_
    refine o_geti (n := 9) rfl rfl rfl rfl rfl ?_
    refine o_aload_n (n := 10) rfl rfl rfl ?_
    refine of_8_18 (n := 13) hS rfl rfl ?_
    refine o_bipush (n := 15) rfl rfl ?_
    refine o_iald (n := 16) (L := 9) rfl rfl rfl rfl rfl (by omega) (by omega) ?_
    refine o_imul (n := 17) rfl rfl (by omega) ?_
    refine o_aload_n (n := 18) rfl rfl rfl ?_
    refine of_8_18 (n := 21) hS rfl rfl ?_
    refine o_bipush (n := 23) rfl rfl ?_
    refine o_iald (n := 24) (L := 9) rfl rfl rfl rfl rfl (by omega) (by omega) ?_
    refine o_imul (n := 25) rfl rfl (by omega) ?_
    refine o_icmp_ge (n := 28) (t := 47) rfl rfl rfl (fun h25 => ?_) (fun h25 => (by exfalso; omega))
    refine o_iload_n (n := 48) rfl rfl rfl ?_
    refine o_iret rfl rfl ?_
    first | (exfalso; omega; done) | exact ⟨rfl, rfl, rfl⟩
  | succ n ih =>
    intro k x i0 i1 i2 i3
    have e1 := ml_b (a := g 8 0 5) (b := g 28 0 8) (A := 4) (B := 3) (by omega) hm1 (by omega) hz1
    have e2 := ml_b (a := g 8 0 5 * g 28 0 8) (b := g 28 0 8) (A := 4 * 3) (B := 3) e1.1 e1.2 (by omega) hz1
    refine o_iload_n (n := 5) rfl rfl rfl ?_
    refine o_aload_n (n := 6) rfl rfl rfl ?_
    refine o_geti (n := 9) rfl rfl rfl rfl rfl ?_
    refine o_aload_n (n := 10) rfl rfl rfl ?_
    refine of_8_18 (n := 13) hS rfl rfl ?_
    refine o_bipush (n := 15) rfl rfl ?_
    refine o_iald (n := 16) (L := 9) rfl rfl rfl rfl rfl (by omega) (by omega) ?_
    refine o_imul (n := 17) rfl rfl (by omega) ?_
    refine o_aload_n (n := 18) rfl rfl rfl ?_
    refine of_8_18 (n := 21) hS rfl rfl ?_
    refine o_bipush (n := 23) rfl rfl ?_
    refine o_iald (n := 24) (L := 9) rfl rfl rfl rfl rfl (by omega) (by omega) ?_
    refine o_imul (n := 25) rfl rfl (by omega) ?_
    refine o_icmp_ge (n := 28) (t := 47) rfl rfl rfl (fun h25 => (by exfalso; omega)) (fun h25 => ?_)
    refine o_iload_n (n := 29) rfl rfl rfl ?_
    refine o_sipush (n := 32) rfl rfl ?_
    refine o_icmp_gt (n := 35) (t := 47) rfl rfl rfl (fun h32 => ?_) (fun h32 => ?_)
    · refine o_iload_n (n := 48) rfl rfl rfl ?_
      refine o_iret rfl rfl ?_
      first | (exfalso; omega; done) | exact ⟨by rw [show tr b (n + 1) x = x from cif_f (by omega)], rfl, rfl⟩
    · refine o_iload_n (n := 36) rfl rfl rfl ?_
      refine o_iload_n (n := 37) rfl rfl rfl ?_
      refine o_iconst (n := 38) rfl rfl ?_
      refine o_iadd (n := 39) rfl rfl (by omega) ?_
      refine o_imul (n := 40) rfl rfl (by have := ml_b (a := x) (b := b + 1) (A := 8192) (B := 10) (by omega) (by omega) (by omega) (by omega); omega) ?_
      refine o_istore_2 (n := 41) rfl rfl rfl ?_
      refine o_iinc_3 (n := 44) rfl rfl rfl (by omega) ?_
      refine o_goto (t := 4) rfl rfl ?_
      rw [show tr b (n + 1) x = tr b n (x * (b + 1)) from cif_t h32]
      have h3 : x * 1 ≤ x * (b + 1) := Int.mul_le_mul_of_nonneg_left (by omega) (by omega)
      have h4 := ml_b (a := x) (b := b + 1) (A := 8192) (B := 10) (by omega) (by omega) (by omega) (by omega)
      exact ih (k + 1) (x * (b + 1)) (by omega) (by omega) (by omega) (by omega)
theorem c8_triesOf (hS : am_St r) (b : Int) (hb : 1 ≤ b) (hb1 : b ≤ 9) (hm0 : 1 ≤ g 8 0 5) (hm1 : g 8 0 5 ≤ 4) (hz0 : 1 ≤ g 28 0 8) (hz1 : g 28 0 8 ≤ 3) : Rt 170 [vR 8 0, vI b] g r (some (vI (tr b (g 8 0 5 * g 28 0 8 * g 28 0 8).toNat 1))) g r := by
  refine rt_of ?_
  show Ou 170 0 [vR 8 0, vI b, vN, vN] [] g r _
  have e1 := ml_b (a := g 8 0 5) (b := g 28 0 8) (A := 4) (B := 3) (by omega) hm1 (by omega) hz1
  have e2 := ml_b (a := g 8 0 5 * g 28 0 8) (b := g 28 0 8) (A := 4 * 3) (B := 3) e1.1 e1.2 (by omega) hz1
  refine o_iconst (n := 1) rfl rfl ?_
  refine o_istore_2 (n := 2) rfl rfl rfl ?_
  refine o_iconst (n := 3) rfl rfl ?_
  refine o_istore_3 (n := 4) rfl rfl rfl ?_
  exact l8_triesOf hS b hb hb1 hm0 hm1 hz0 hz1 _ 0 1 (by omega) (by omega) (by omega) (by omega)
end BITS
