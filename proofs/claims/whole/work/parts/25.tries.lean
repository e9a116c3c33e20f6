/-! tries: both classes. Written by wip/gen/gen25.py -/
def dq (B t : Int) : Nat → Int
  | 0 => t
  | j + 1 => dq B t j / B
def dg (B t : Int) (j : Nat) : Int := dq B t j % B
def ps (n s x y : Int) : Int := (s * n + x) * n + y
noncomputable def lo (ρ : Int) : Int := cif (ρ = 0) 0 (-1)
theorem lo_r {ρ : Int} : lo ρ = 0 ∨ lo ρ = -1 := by
  unfold lo
  by_cases h : ρ = 0
  · rw [cif_t h]; exact Or.inl rfl
  · rw [cif_f h]; exact Or.inr rfl
noncomputable def Et (ρ n m b : Int) (E : Int → Int → Int → Int) (t s x y : Int) : Int := cif (s < m ∧ x < n ∧ y < n) (lo ρ + dg (b + 1) t (m * n * n - 1 - ps n s x y).toNat) (E s x y)
theorem Et_i {ρ n m b : Int} {E : Int → Int → Int → Int} {t s x y : Int} (h : s < m ∧ x < n ∧ y < n) : Et ρ n m b E t s x y = lo ρ + dg (b + 1) t (m * n * n - 1 - ps n s x y).toNat := cif_t h
theorem Et_o {ρ n m b : Int} {E : Int → Int → Int → Int} {t s x y : Int} (h : ¬ (s < m ∧ x < n ∧ y < n)) : Et ρ n m b E t s x y = E s x y := cif_f h
theorem dg_b {b t : Int} (hb : 1 ≤ b) {j : Nat} : 0 ≤ dg (b + 1) t j ∧ dg (b + 1) t j ≤ b := by
  unfold dg
  have h1 := Int.emod_nonneg (dq (b + 1) t j) (show b + 1 ≠ 0 by omega)
  have h2 := Int.emod_lt_of_pos (dq (b + 1) t j) (show 0 < b + 1 by omega)
  omega
theorem dq_0 {B : Int} : ∀ {j : Nat}, dq B 0 j = 0
  | 0 => rfl
  | j + 1 => by show dq B 0 j / B = 0; rw [dq_0]; exact Int.zero_ediv B
theorem dg_0 {B : Int} {j : Nat} : dg B 0 j = 0 := by unfold dg; rw [dq_0]; exact Int.zero_emod B
theorem Et_b {ρ n m b : Int} {E : Int → Int → Int → Int} {t : Int} (hb0 : 1 ≤ b) (hb1 : b ≤ 9) (h : Br ρ n E) : Br ρ n (Et ρ n m b E t) := by
  refine ⟨h.1, h.2.1, fun s x y a0 a1 b0 b1 c0 c1 => ?_⟩
  by_cases c : s < m ∧ x < n ∧ y < n
  · rw [Et_i c]
    have := dg_b (b := b) (t := t) hb0 (j := (m * n * n - 1 - ps n s x y).toNat)
    have := lo_r (ρ := ρ)
    omega
  · rw [Et_o c]; exact h.2.2 s x y a0 a1 b0 b1 c0 c1
theorem ps_b {n m s x y : Int} (hn0 : 1 ≤ n) (hn1 : n ≤ 3) (a0 : 0 ≤ s) (a1 : s < m) (b0 : 0 ≤ x) (b1 : x < n) (c0 : 0 ≤ y) (c1 : y < n) : 0 ≤ ps n s x y ∧ ps n s x y < m * n * n := by
  have h : n = 1 ∨ n = 2 ∨ n = 3 := by omega
  rcases h with h | h | h <;> subst h <;> unfold ps <;> omega
theorem ps_i {n s x y a b d : Int} (hn0 : 1 ≤ n) (hn1 : n ≤ 3) (b0 : 0 ≤ x) (b1 : x < n) (c0 : 0 ≤ y) (c1 : y < n) (e0 : 0 ≤ b) (e1 : b < n) (f0 : 0 ≤ d) (f1 : d < n) (hp : ps n a b d = ps n s x y) : a = s ∧ b = x ∧ d = y := by
  have h : n = 1 ∨ n = 2 ∨ n = 3 := by omega
  rcases h with h | h | h <;> subst h <;> unfold ps at hp <;> omega
theorem ps_y {n s x : Int} (hn0 : 1 ≤ n) (hn1 : n ≤ 3) : ps n s x (-1) = ps n s (x - 1) (n - 1) := by
  have h : n = 1 ∨ n = 2 ∨ n = 3 := by omega
  rcases h with h | h | h <;> subst h <;> unfold ps <;> omega
theorem ps_x {n s : Int} (hn0 : 1 ≤ n) (hn1 : n ≤ 3) : ps n s (-1) (n - 1) = ps n (s - 1) (n - 1) (n - 1) := by
  have h : n = 1 ∨ n = 2 ∨ n = 3 := by omega
  rcases h with h | h | h <;> subst h <;> unfold ps <;> omega
theorem ps_s {n : Int} (hn0 : 1 ≤ n) (hn1 : n ≤ 3) : ps n (-1) (n - 1) (n - 1) = -1 := by
  have h : n = 1 ∨ n = 2 ∨ n = 3 := by omega
  rcases h with h | h | h <;> subst h <;> unfold ps <;> omega
theorem ps_1 {n s x y : Int} : ps n s x (y - 1) = ps n s x y - 1 := by unfold ps; omega
theorem ps_e {n m : Int} (hn0 : 1 ≤ n) (hn1 : n ≤ 3) : ps n (m - 1) (n - 1) (n - 1) = m * n * n - 1 := by
  have h : n = 1 ∨ n = 2 ∨ n = 3 := by omega
  rcases h with h | h | h <;> subst h <;> unfold ps <;> omega
theorem ps_d {n m k : Int} (hn0 : 1 ≤ n) (hn1 : n ≤ 3) (h0 : 0 ≤ k) (h1 : k < m * n * n) : (0 ≤ k / (n * n) ∧ k / (n * n) < m) ∧ (0 ≤ k % (n * n) ∧ k % (n * n) < n * n) ∧ (0 ≤ k % (n * n) / n ∧ k % (n * n) / n < n) ∧ (0 ≤ k % (n * n) % n ∧ k % (n * n) % n < n) ∧ ps n (k / (n * n)) (k % (n * n) / n) (k % (n * n) % n) = k := by
  have h : n = 1 ∨ n = 2 ∨ n = 3 := by omega
  rcases h with h | h | h <;> subst h <;> unfold ps
  · rw [show (1 : Int) * 1 = 1 by decide]; omega
  · rw [show (2 : Int) * 2 = 4 by decide]; omega
  · rw [show (3 : Int) * 3 = 9 by decide]; omega
theorem mnn_b {n m : Int} (hm0 : 1 ≤ m) (hm1 : m ≤ 4) (hn0 : 1 ≤ n) (hn1 : n ≤ 3) : (1 ≤ m * n ∧ m * n ≤ 12) ∧ (1 ≤ m * n * n ∧ m * n * n ≤ 36) ∧ (1 ≤ n * n ∧ n * n ≤ 9) := by
  have h : n = 1 ∨ n = 2 ∨ n = 3 := by omega
  rcases h with h | h | h <;> subst h <;> omega
/-- counting on: a digit that isn't the highest; one that is -/
theorem dq_n {b t u : Int} {j : Nat} (hb : 1 ≤ b) (h : dq (b + 1) u j = dq (b + 1) t j + 1) (hd : dg (b + 1) t j < b) : dg (b + 1) u j = dg (b + 1) t j + 1 ∧ dq (b + 1) u (j + 1) = dq (b + 1) t (j + 1) := by
  have e : dq (b + 1) u (j + 1) = dq (b + 1) u j / (b + 1) := rfl
  have e' : dq (b + 1) t (j + 1) = dq (b + 1) t j / (b + 1) := rfl
  unfold dg at hd ⊢
  rw [e, e', h]
  have h0 := Int.emod_nonneg (dq (b + 1) t j) (show b + 1 ≠ 0 by omega)
  have hx := Int.emod_add_mul_ediv (dq (b + 1) t j) (b + 1)
  have h2 : dq (b + 1) t j + 1 = (dq (b + 1) t j % (b + 1) + 1) + (b + 1) * (dq (b + 1) t j / (b + 1)) := by omega
  constructor
  · rw [h2, Int.add_mul_emod_self_left, Int.emod_eq_of_lt (by omega) (by omega)]
  · rw [h2, Int.add_mul_ediv_left _ _ (by omega), Int.ediv_eq_zero_of_lt (by omega) (by omega)]; omega
theorem dq_c {b t u : Int} {j : Nat} (hb : 1 ≤ b) (h : dq (b + 1) u j = dq (b + 1) t j + 1) (hd : ¬ dg (b + 1) t j < b) : dg (b + 1) u j = 0 ∧ dq (b + 1) u (j + 1) = dq (b + 1) t (j + 1) + 1 := by
  have e : dq (b + 1) u (j + 1) = dq (b + 1) u j / (b + 1) := rfl
  have e' : dq (b + 1) t (j + 1) = dq (b + 1) t j / (b + 1) := rfl
  have hq := dg_b (b := b) (t := t) hb (j := j)
  unfold dg at hd hq ⊢
  rw [e, e', h]
  have hx := Int.emod_add_mul_ediv (dq (b + 1) t j) (b + 1)
  have h2 : dq (b + 1) t j + 1 = 0 + (b + 1) * (dq (b + 1) t j / (b + 1) + 1) := by rw [Int.mul_add]; omega
  constructor
  · rw [h2, Int.add_mul_emod_self_left]; exact Int.zero_emod _
  · rw [h2, Int.add_mul_ediv_left _ _ (by omega), Int.zero_ediv]; omega
theorem dq_e {B t u : Int} {j : Nat} (h : dq B u j = dq B t j) : ∀ (i : Nat), dq B u (j + i) = dq B t (j + i)
  | 0 => h
  | i + 1 => by show dq B u (j + i) / B = dq B t (j + i) / B; rw [dq_e h i]
/-- only entries of reading e changed -/
def U1 (e : Int) (g g' : GI) : Prop := (∀ k, k ≠ 9 → g' k = g k) ∧ ∀ i s, i ≠ e → g' 9 i s = g 9 i s
theorem U1_refl (e : Int) (g : GI) : U1 e g g := ⟨fun _ _ => rfl, fun _ _ _ => rfl⟩
theorem U1_set {e s v : Int} {g g1 : GI} (h : U1 e g g1) : U1 e g (gset g1 9 e s v) := ⟨fun k a => (gset_kf a).trans (h.1 k a), fun i s' a => (gset_i a).trans (h.2 i s' a)⟩
section TRIES
variable {g r : GI} {ρ n e m b t : Int} {E : Int → Int → Int → Int} {Q : Option AV → GI → GI → Prop}
theorem l0_sty (hS : am_St r) (he : 0 ≤ e) (he1 : e < 10) (hm0 : 1 ≤ m) (hm1 : m ≤ 4) (hn0 : 1 ≤ n) (hn1 : n ≤ 3) (hq : g 0 e 0 = ρ) (hn : g 0 e 1 = n) {s x : Int} (hs : 0 ≤ s) (hs1 : s < m) (hx : 0 ≤ x) (hx1 : x < n) : ∀ (k : Nat) (y : Int) (g1 : GI), (0 ≤ y) → (y + k = n) → (U1 e g g1) → (∀ a b c, 0 ≤ a → a < 4 → 0 ≤ b → b < 3 → 0 ≤ c → c < 3 → g1 9 e (a * 9 + b * 3 + c) = cif (b < n ∧ c < n ∧ (a < s ∨ (a = s ∧ (b < x ∨ (b = x ∧ c < y))))) (lo ρ) (g 9 e (a * 9 + b * 3 + c))) → (∀ g1, U1 e g g1 → (∀ a b c, 0 ≤ a → a < 4 → 0 ≤ b → b < 3 → 0 ≤ c → c < 3 → g1 9 e (a * 9 + b * 3 + c) = cif (b < n ∧ c < n ∧ (a < s ∨ (a = s ∧ b < x + 1))) (lo ρ) (g 9 e (a * 9 + b * 3 + c))) → Ou 6 47 [vR 0 e, vI m, vI s, vI x, vI n] [] g1 r Q) → Ou 6 20 [vR 0 e, vI m, vI s, vI x, vI y] [] g1 r Q := by
  intro k
  induction k with
  | zero =>
    intro y g1 i0 i1 f i2 hQ
    have e0 : g1 0 e 0 = ρ := by rw [f.1 0 (by decide)]; exact hq
    have e1 : g1 0 e 1 = n := by rw [f.1 0 (by decide)]; exact hn
    have hk : y = n := by omega
    subst hk
    refine o_iload (n := 22) rfl rfl rfl ?_
    refine o_aload_n (n := 23) rfl rfl rfl ?_
    refine o_geti (n := 26) rfl rfl rfl (ok_0 (by omega) (by omega)) rfl ?_
    refine o_icmp_ge (n := 29) (t := 47) rfl rfl rfl (fun h26 => ?_) (fun h26 => (by exfalso; omega))
    exact hQ g1 f (fun a b c a0 a1 b0 b1 c0 c1 => (i2 a b c a0 a1 b0 b1 c0 c1).trans (cif_congr (by omega)))
  | succ k ih =>
    intro y g1 i0 i1 f i2 hQ
    have e0 : g1 0 e 0 = ρ := by rw [f.1 0 (by decide)]; exact hq
    have e1 : g1 0 e 1 = n := by rw [f.1 0 (by decide)]; exact hn
    refine o_iload (n := 22) rfl rfl rfl ?_
    refine o_aload_n (n := 23) rfl rfl rfl ?_
    refine o_geti (n := 26) rfl rfl rfl (ok_0 (by omega) (by omega)) rfl ?_
    refine o_icmp_ge (n := 29) (t := 47) rfl rfl rfl (fun h26 => (by exfalso; omega)) (fun h26 => ?_)
    refine o_aload_n (n := 30) rfl rfl rfl ?_
    refine o_iload_n (n := 31) rfl rfl rfl ?_
    refine o_iload_n (n := 32) rfl rfl rfl ?_
    refine o_iload (n := 34) rfl rfl rfl ?_
    refine o_aload_n (n := 35) rfl rfl rfl ?_
    have hlo := c0_lowestDigit (g := g1) (r := r) e he he1
    rw [e0] at hlo
    have hlo : Rt 8 [vR 0 e] g1 r (some (vI (lo ρ))) g1 r := hlo
    refine o_invi (n := 38) rfl rfl rfl rfl rfl rfl rfl rfl rfl (ok_0 (by omega) (by omega)) (hlo) ?_
    refine o_invv (n := 41) rfl rfl rfl rfl rfl rfl rfl rfl rfl (ok_0 (by omega) (by omega)) (c0_tell hS e s x y _ he he1 (by omega) (by omega) (by omega) (by omega) (by omega) (by omega)) ?_
    refine o_iinc_4 (n := 44) rfl rfl rfl (by omega) ?_
    refine o_goto (t := 20) rfl rfl ?_
    refine ih (y + 1) _ (by omega) (by omega) (U1_set f) (fun a b c a0 a1 b0 b1 c0 c1 => ?_) hQ
    by_cases z : a = s ∧ b = x ∧ c = y
    · rw [z.1, z.2.1, z.2.2, gset_at, cif_t (by omega)]
    · rw [gset_s (by omega), i2 a b c a0 a1 b0 b1 c0 c1]; exact cif_congr (by omega)
theorem l0_stx (hS : am_St r) (he : 0 ≤ e) (he1 : e < 10) (hm0 : 1 ≤ m) (hm1 : m ≤ 4) (hn0 : 1 ≤ n) (hn1 : n ≤ 3) (hq : g 0 e 0 = ρ) (hn : g 0 e 1 = n) {s : Int} (hs : 0 ≤ s) (hs1 : s < m) : ∀ (k : Nat) (x : Int) (t : AV) (g1 : GI), (0 ≤ x) → (x + k = n) → (U1 e g g1) → (∀ a b c, 0 ≤ a → a < 4 → 0 ≤ b → b < 3 → 0 ≤ c → c < 3 → g1 9 e (a * 9 + b * 3 + c) = cif (b < n ∧ c < n ∧ (a < s ∨ (a = s ∧ b < x))) (lo ρ) (g 9 e (a * 9 + b * 3 + c))) → (∀ x t g1, U1 e g g1 → (∀ a b c, 0 ≤ a → a < 4 → 0 ≤ b → b < 3 → 0 ≤ c → c < 3 → g1 9 e (a * 9 + b * 3 + c) = cif (b < n ∧ c < n ∧ a < s + 1) (lo ρ) (g 9 e (a * 9 + b * 3 + c))) → Ou 6 53 [vR 0 e, vI m, vI s, x, t] [] g1 r Q) → Ou 6 9 [vR 0 e, vI m, vI s, vI x, t] [] g1 r Q := by
  intro k
  induction k with
  | zero =>
    intro x t g1 i0 i1 f i2 hQ
    have e0 : g1 0 e 0 = ρ := by rw [f.1 0 (by decide)]; exact hq
    have e1 : g1 0 e 1 = n := by rw [f.1 0 (by decide)]; exact hn
    refine o_iload_n (n := 10) rfl rfl rfl ?_
    refine o_aload_n (n := 11) rfl rfl rfl ?_
    refine o_geti (n := 14) rfl rfl rfl (ok_0 (by omega) (by omega)) rfl ?_
    refine o_icmp_ge (n := 17) (t := 53) rfl rfl rfl (fun h14 => ?_) (fun h14 => (by exfalso; omega))
    exact hQ _ _ g1 f (fun a b c a0 a1 b0 b1 c0 c1 => (i2 a b c a0 a1 b0 b1 c0 c1).trans (cif_congr (by omega)))
  | succ k ih =>
    intro x t g1 i0 i1 f i2 hQ
    have e0 : g1 0 e 0 = ρ := by rw [f.1 0 (by decide)]; exact hq
    have e1 : g1 0 e 1 = n := by rw [f.1 0 (by decide)]; exact hn
    refine o_iload_n (n := 10) rfl rfl rfl ?_
    refine o_aload_n (n := 11) rfl rfl rfl ?_
    refine o_geti (n := 14) rfl rfl rfl (ok_0 (by omega) (by omega)) rfl ?_
    refine o_icmp_ge (n := 17) (t := 53) rfl rfl rfl (fun h14 => (by exfalso; omega)) (fun h14 => ?_)
    refine o_iconst (n := 18) rfl rfl ?_
    refine o_istore_4 (n := 20) rfl rfl rfl ?_
    refine l0_sty hS he he1 hm0 hm1 hn0 hn1 hq hn hs hs1 i0 (by omega) n.toNat 0 g1 (by omega) (by omega) f (fun a b c a0 a1 b0 b1 c0 c1 => (i2 a b c a0 a1 b0 b1 c0 c1).trans (cif_congr (by omega))) (fun g1 f i2 => ?_)
    refine o_iinc_3 (n := 50) rfl rfl rfl (by omega) ?_
    refine o_goto (t := 9) rfl rfl ?_
    exact ih (x + 1) _ g1 (by omega) (by omega) f i2 hQ
theorem l0_sts (hS : am_St r) (he : 0 ≤ e) (he1 : e < 10) (hm0 : 1 ≤ m) (hm1 : m ≤ 4) (hn0 : 1 ≤ n) (hn1 : n ≤ 3) (hq : g 0 e 0 = ρ) (hn : g 0 e 1 = n) : ∀ (k : Nat) (s : Int) (t1 t2 : AV) (g1 : GI), (0 ≤ s) → (s + k = m) → (U1 e g g1) → (∀ a b c, 0 ≤ a → a < 4 → 0 ≤ b → b < 3 → 0 ≤ c → c < 3 → g1 9 e (a * 9 + b * 3 + c) = cif (b < n ∧ c < n ∧ a < s) (lo ρ) (g 9 e (a * 9 + b * 3 + c))) → Ou 6 2 [vR 0 e, vI m, vI s, t1, t2] [] g1 r (fun v g1 r1 => v = none ∧ r1 = r ∧ U1 e g g1 ∧ ∀ a b c, 0 ≤ a → a < 4 → 0 ≤ b → b < 3 → 0 ≤ c → c < 3 → g1 9 e (a * 9 + b * 3 + c) = cif (b < n ∧ c < n ∧ a < m) (lo ρ) (g 9 e (a * 9 + b * 3 + c))) := by
  intro k
  induction k with
  | zero =>
    intro s t1 t2 g1 i0 i1 f i2
    have e0 : g1 0 e 0 = ρ := by rw [f.1 0 (by decide)]; exact hq
    have e1 : g1 0 e 1 = n := by rw [f.1 0 (by decide)]; exact hn
    refine o_iload_n (n := 3) rfl rfl rfl ?_
    refine o_iload_n (n := 4) rfl rfl rfl ?_
    refine o_icmp_ge (n := 7) (t := 59) rfl rfl rfl (fun h4 => ?_) (fun h4 => (by exfalso; omega))
    refine o_vret rfl ?_
    first | (exfalso; omega; done) | exact ⟨rfl, rfl, f, (fun a b c a0 a1 b0 b1 c0 c1 => (i2 a b c a0 a1 b0 b1 c0 c1).trans (cif_congr (by omega)))⟩
  | succ k ih =>
    intro s t1 t2 g1 i0 i1 f i2
    have e0 : g1 0 e 0 = ρ := by rw [f.1 0 (by decide)]; exact hq
    have e1 : g1 0 e 1 = n := by rw [f.1 0 (by decide)]; exact hn
    refine o_iload_n (n := 3) rfl rfl rfl ?_
    refine o_iload_n (n := 4) rfl rfl rfl ?_
    refine o_icmp_ge (n := 7) (t := 59) rfl rfl rfl (fun h4 => (by exfalso; omega)) (fun h4 => ?_)
    refine o_iconst (n := 8) rfl rfl ?_
    refine o_istore_3 (n := 9) rfl rfl rfl ?_
    refine l0_stx hS he he1 hm0 hm1 hn0 hn1 hq hn i0 (by omega) n.toNat 0 _ g1 (by omega) (by omega) f (fun a b c a0 a1 b0 b1 c0 c1 => (i2 a b c a0 a1 b0 b1 c0 c1).trans (cif_congr (by omega))) (fun x t g1 f i2 => ?_)
    refine o_iinc_2 (n := 56) rfl rfl rfl (by omega) ?_
    refine o_goto (t := 2) rfl rfl ?_
    exact ih (s + 1) _ _ g1 (by omega) (by omega) f i2
theorem c0_start0 (hS : am_St r) (he : 0 ≤ e) (he1 : e < 10) (hm0 : 1 ≤ m) (hm1 : m ≤ 4) (hn0 : 1 ≤ n) (hn1 : n ≤ 3) (hq : g 0 e 0 = ρ) (hn : g 0 e 1 = n) : Ou 6 0 (am_ini 6 [vR 0 e, vI m]) [] g r (fun v g1 r1 => v = none ∧ r1 = r ∧ U1 e g g1 ∧ ∀ a b c, 0 ≤ a → a < 4 → 0 ≤ b → b < 3 → 0 ≤ c → c < 3 → g1 9 e (a * 9 + b * 3 + c) = cif (b < n ∧ c < n ∧ a < m) (lo ρ) (g 9 e (a * 9 + b * 3 + c))) := by
  show Ou 6 0 [vR 0 e, vI m, vN, vN, vN] [] g r _
  refine o_iconst (n := 1) rfl rfl ?_
  refine o_istore_2 (n := 2) rfl rfl rfl ?_
  exact l0_sts hS he he1 hm0 hm1 hn0 hn1 hq hn m.toNat 0 _ _ g (by omega) (by omega) (U1_refl e g) (fun a b c a0 a1 b0 b1 c0 c1 => by rw [cif_f (by omega)])
theorem c0_startTries (hS : am_St r) (he : 0 ≤ e) (he1 : e < 10) (hm0 : 1 ≤ m) (hm1 : m ≤ 4) (hb : Br ρ n E) (hV : Vr7 g e ρ n E) : Ou 6 0 (am_ini 6 [vR 0 e, vI m]) [] g r (fun v g1 r1 => v = none ∧ r1 = r ∧ U1 e g g1 ∧ Vr7 g1 e ρ n (Et ρ n m b E 0)) := by
  obtain ⟨k, v, g1, r1, h1, h2, h3, h4, h5⟩ := c0_start0 hS he he1 hm0 hm1 hb.2.1.1 hb.2.1.2 hV.1 hV.2.1
  refine ⟨k, v, g1, r1, h1, h2, h3, h4, by rw [h4.1 0 (by decide)]; exact hV.1, by rw [h4.1 0 (by decide)]; exact hV.2.1, fun s x y a0 a1 b0 b1 c0 c1 => ?_⟩
  have e1 := hV.2.2 s x y a0 a1 b0 b1 c0 c1
  rw [show s * 9 + y + x * 3 = s * 9 + x * 3 + y by omega] at e1 ⊢
  rw [h5 s x y a0 a1 b0 b1 c0 c1, e1]
  unfold Et
  rw [dg_0, Int.add_zero]
  exact cif_congr (by omega)
/-- counted on above place c -/
def Cn (g1 : GI) (e ρ n m b : Int) (E : Int → Int → Int → Int) (t c : Int) : Prop := (∀ a x y, 0 ≤ a → a < 4 → 0 ≤ x → x < 3 → 0 ≤ y → y < 3 → g1 9 e (a * 9 + x * 3 + y) = cif (c < ps n a x y) (Et ρ n m b E (t + 1) a x y) (Et ρ n m b E t a x y)) ∧ dq (b + 1) (t + 1) (m * n * n - 1 - c).toNat = dq (b + 1) t (m * n * n - 1 - c).toNat + 1
theorem Cn_c {g1 : GI} {s x y : Int} (hm1 : m ≤ 4) (hn0 : 1 ≤ n) (hn1 : n ≤ 3) (hb0 : 1 ≤ b) (a0 : 0 ≤ s) (a1 : s < m) (b0 : 0 ≤ x) (b1 : x < n) (c0 : 0 ≤ y) (c1 : y < n) (h : Cn g1 e ρ n m b E t (ps n s x y)) (hd : ¬ dg (b + 1) t (m * n * n - 1 - ps n s x y).toNat < b) : Cn (gset g1 9 e (s * 9 + x * 3 + y) (lo ρ)) e ρ n m b E t (ps n s x y - 1) := by
  have hp := ps_b hn0 hn1 a0 a1 b0 b1 c0 c1
  have hc := dq_c hb0 h.2 hd
  refine ⟨fun a x' y' d0 d1 e0 e1 f0 f1 => ?_, ?_⟩
  · by_cases z : a = s ∧ x' = x ∧ y' = y
    · rw [z.1, z.2.1, z.2.2, gset_at, cif_t (by omega), Et_i ⟨a1, b1, c1⟩, hc.1, Int.add_zero]
    · rw [gset_s (by omega), h.1 a x' y' d0 d1 e0 e1 f0 f1]
      by_cases q : a < m ∧ x' < n ∧ y' < n
      · refine cif_congr ?_
        have : ps n a x' y' ≠ ps n s x y := fun w => z (ps_i hn0 hn1 b0 b1 c0 c1 e0 q.2.1 f0 q.2.2 w)
        omega
      · rw [Et_o q, Et_o q]
        unfold cif
        split <;> split <;> rfl
  · rw [show (m * n * n - 1 - (ps n s x y - 1)).toNat = (m * n * n - 1 - ps n s x y).toNat + 1 by omega]
    exact hc.2
theorem Cn_n {g1 : GI} {s x y : Int} (hm1 : m ≤ 4) (hn0 : 1 ≤ n) (hn1 : n ≤ 3) (hb0 : 1 ≤ b) (a0 : 0 ≤ s) (a1 : s < m) (b0 : 0 ≤ x) (b1 : x < n) (c0 : 0 ≤ y) (c1 : y < n) (h : Cn g1 e ρ n m b E t (ps n s x y)) (hd : dg (b + 1) t (m * n * n - 1 - ps n s x y).toNat < b) (a x' y' : Int) (d0 : 0 ≤ a) (d1 : a < 4) (e0 : 0 ≤ x') (e1 : x' < 3) (f0 : 0 ≤ y') (f1 : y' < 3) : gset g1 9 e (s * 9 + x * 3 + y) (lo ρ + dg (b + 1) t (m * n * n - 1 - ps n s x y).toNat + 1) 9 e (a * 9 + x' * 3 + y') = Et ρ n m b E (t + 1) a x' y' := by
  have hp := ps_b hn0 hn1 a0 a1 b0 b1 c0 c1
  have hc := dq_n hb0 h.2 hd
  by_cases z : a = s ∧ x' = x ∧ y' = y
  · rw [z.1, z.2.1, z.2.2, gset_at, Et_i ⟨a1, b1, c1⟩, hc.1]; omega
  · rw [gset_s (by omega), h.1 a x' y' d0 d1 e0 e1 f0 f1]
    by_cases q : a < m ∧ x' < n ∧ y' < n
    · by_cases w : ps n s x y < ps n a x' y'
      · rw [cif_t w]
      · rw [cif_f w, Et_i q, Et_i q]
        have hne : ps n a x' y' ≠ ps n s x y := fun w => z (ps_i hn0 hn1 b0 b1 c0 c1 e0 q.2.1 f0 q.2.2 w)
        have hp' := ps_b hn0 hn1 d0 q.1 e0 q.2.1 f0 q.2.2
        have he := dq_e hc.2 ((m * n * n - 1 - ps n a x' y').toNat - ((m * n * n - 1 - ps n s x y).toNat + 1))
        rw [show (m * n * n - 1 - ps n s x y).toNat + 1 + ((m * n * n - 1 - ps n a x' y').toNat - ((m * n * n - 1 - ps n s x y).toNat + 1)) = (m * n * n - 1 - ps n a x' y').toNat by omega] at he
        unfold dg
        rw [he]
    · rw [Et_o q, Et_o q]
      unfold cif
      split <;> rfl
theorem l0_nty (hS : am_St r) (he : 0 ≤ e) (he1 : e < 10) (hm0 : 1 ≤ m) (hm1 : m ≤ 4) (hn0 : 1 ≤ n) (hn1 : n ≤ 3) (hq : g 0 e 0 = ρ) (hn : g 0 e 1 = n) (hb0 : 1 ≤ b) (hb1 : b ≤ 9) (hV : ∀ a b_ c, 0 ≤ a → a < 4 → 0 ≤ b_ → b_ < 3 → 0 ≤ c → c < 3 → g 9 e (a * 9 + b_ * 3 + c) = Et ρ n m b E t a b_ c) {s x : Int} (hs : 0 ≤ s) (hs1 : s < m) (hx : 0 ≤ x) (hx1 : x < n) : ∀ (k : Nat) (y : Int) (t7 : AV) (g1 : GI), (y + 1 = k) → (y < n) → (U1 e g g1) → (Cn g1 e ρ n m b E t (ps n s x y)) → (∀ t6 t7 g1, U1 e g g1 → Cn g1 e ρ n m b E t (ps n s x (-1)) → Ou 7 96 [vR 0 e, vI m, vI b, vI (lo ρ + b), vI s, vI x, t6, t7] [] g1 r (fun v g1 r1 => v = none ∧ r1 = r ∧ U1 e g g1 ∧ ∀ a x y, 0 ≤ a → a < 4 → 0 ≤ x → x < 3 → 0 ≤ y → y < 3 → g1 9 e (a * 9 + x * 3 + y) = Et ρ n m b E (t + 1) a x y)) → Ou 7 38 [vR 0 e, vI m, vI b, vI (lo ρ + b), vI s, vI x, vI y, t7] [] g1 r (fun v g1 r1 => v = none ∧ r1 = r ∧ U1 e g g1 ∧ ∀ a x y, 0 ≤ a → a < 4 → 0 ≤ x → x < 3 → 0 ≤ y → y < 3 → g1 9 e (a * 9 + x * 3 + y) = Et ρ n m b E (t + 1) a x y) := by
  intro k
  induction k with
  | zero =>
    intro y t7 g1 i0 i1 f i2 hQ
    have e0 : g1 0 e 0 = ρ := by rw [f.1 0 (by decide)]; exact hq
    have e1 : g1 0 e 1 = n := by rw [f.1 0 (by decide)]; exact hn
    have hk : y = -1 := by omega
    subst hk
    refine o_iload (n := 40) rfl rfl rfl ?_
    refine o_if_lt (n := 43) (t := 96) rfl rfl rfl (fun h40 => ?_) (fun h40 => (by exfalso; omega))
    exact hQ _ _ g1 f i2
  | succ k ih =>
    intro y t7 g1 i0 i1 f i2 hQ
    have e0 : g1 0 e 0 = ρ := by rw [f.1 0 (by decide)]; exact hq
    have e1 : g1 0 e 1 = n := by rw [f.1 0 (by decide)]; exact hn
    have hcur := i2.1 s x y (by omega) (by omega) (by omega) (by omega) (by omega) (by omega)
    rw [cif_f (by omega), Et_i ⟨by omega, by omega, by omega⟩] at hcur
    have hdb := dg_b (b := b) (t := t) hb0 (j := (m * n * n - 1 - ps n s x y).toNat)
    have hlr := lo_r (ρ := ρ)
    refine o_iload (n := 40) rfl rfl rfl ?_
    refine o_if_lt (n := 43) (t := 96) rfl rfl rfl (fun h40 => (by exfalso; omega)) (fun h40 => ?_)
    refine o_aload_n (n := 44) rfl rfl rfl ?_
    refine o_iload (n := 46) rfl rfl rfl ?_
    refine o_iload (n := 48) rfl rfl rfl ?_
    refine o_iload (n := 50) rfl rfl rfl ?_
    refine o_invi (n := 53) rfl rfl rfl rfl rfl rfl rfl rfl rfl (ok_0 (by omega) (by omega)) (c0_entryAt hS e s x y he he1 (by omega) (by omega) (by omega) (by omega) (by omega) (by omega)) ?_
    rw [hcur]
    refine o_istore_7 (n := 55) rfl rfl rfl ?_
    refine o_iload (n := 57) rfl rfl rfl ?_
    refine o_iload_n (n := 58) rfl rfl rfl ?_
    refine o_icmp_ge (n := 61) (t := 76) rfl rfl rfl (fun h58 => ?_) (fun h58 => ?_)
    · refine o_aload_n (n := 77) rfl rfl rfl ?_
      refine o_iload (n := 79) rfl rfl rfl ?_
      refine o_iload (n := 81) rfl rfl rfl ?_
      refine o_iload (n := 83) rfl rfl rfl ?_
      refine o_aload_n (n := 84) rfl rfl rfl ?_
      have hlo := c0_lowestDigit (g := g1) (r := r) e he he1
      rw [e0] at hlo
      have hlo : Rt 8 [vR 0 e] g1 r (some (vI (lo ρ))) g1 r := hlo
      refine o_invi (n := 87) rfl rfl rfl rfl rfl rfl rfl rfl rfl (ok_0 (by omega) (by omega)) (hlo) ?_
      refine o_invv (n := 90) rfl rfl rfl rfl rfl rfl rfl rfl rfl (ok_0 (by omega) (by omega)) (c0_tell hS e s x y _ he he1 (by omega) (by omega) (by omega) (by omega) (by omega) (by omega)) ?_
      refine o_iinc_6 (n := 93) rfl rfl rfl (by omega) ?_
      refine o_goto (t := 38) rfl rfl ?_
      exact ih (y - 1) _ _ (by omega) (by omega) (U1_set f) (by rw [ps_1]; exact Cn_c hm1 hn0 hn1 hb0 hs hs1 hx hx1 (by omega) i1 i2 (by omega)) hQ
    · refine o_aload_n (n := 62) rfl rfl rfl ?_
      refine o_iload (n := 64) rfl rfl rfl ?_
      refine o_iload (n := 66) rfl rfl rfl ?_
      refine o_iload (n := 68) rfl rfl rfl ?_
      refine o_iload (n := 70) rfl rfl rfl ?_
      refine o_iconst (n := 71) rfl rfl ?_
      refine o_iadd (n := 72) rfl rfl (by omega) ?_
      refine o_invv (n := 75) rfl rfl rfl rfl rfl rfl rfl rfl rfl (ok_0 (by omega) (by omega)) (c0_tell hS e s x y _ he he1 (by omega) (by omega) (by omega) (by omega) (by omega) (by omega)) ?_
      refine o_vret rfl ?_
      exact ⟨rfl, rfl, U1_set f, Cn_n hm1 hn0 hn1 hb0 hs hs1 hx hx1 (by omega) i1 i2 (by omega)⟩
theorem l0_ntx (hS : am_St r) (he : 0 ≤ e) (he1 : e < 10) (hm0 : 1 ≤ m) (hm1 : m ≤ 4) (hn0 : 1 ≤ n) (hn1 : n ≤ 3) (hq : g 0 e 0 = ρ) (hn : g 0 e 1 = n) (hb0 : 1 ≤ b) (hb1 : b ≤ 9) (hV : ∀ a b_ c, 0 ≤ a → a < 4 → 0 ≤ b_ → b_ < 3 → 0 ≤ c → c < 3 → g 9 e (a * 9 + b_ * 3 + c) = Et ρ n m b E t a b_ c) {s : Int} (hs : 0 ≤ s) (hs1 : s < m) : ∀ (k : Nat) (x : Int) (t6 t7 : AV) (g1 : GI), (x + 1 = k) → (x < n) → (U1 e g g1) → (Cn g1 e ρ n m b E t (ps n s x (n - 1))) → (∀ t5 t6 t7 g1, U1 e g g1 → Cn g1 e ρ n m b E t (ps n s (-1) (n - 1)) → Ou 7 102 [vR 0 e, vI m, vI b, vI (lo ρ + b), vI s, t5, t6, t7] [] g1 r (fun v g1 r1 => v = none ∧ r1 = r ∧ U1 e g g1 ∧ ∀ a x y, 0 ≤ a → a < 4 → 0 ≤ x → x < 3 → 0 ≤ y → y < 3 → g1 9 e (a * 9 + x * 3 + y) = Et ρ n m b E (t + 1) a x y)) → Ou 7 25 [vR 0 e, vI m, vI b, vI (lo ρ + b), vI s, vI x, t6, t7] [] g1 r (fun v g1 r1 => v = none ∧ r1 = r ∧ U1 e g g1 ∧ ∀ a x y, 0 ≤ a → a < 4 → 0 ≤ x → x < 3 → 0 ≤ y → y < 3 → g1 9 e (a * 9 + x * 3 + y) = Et ρ n m b E (t + 1) a x y) := by
  intro k
  induction k with
  | zero =>
    intro x t6 t7 g1 i0 i1 f i2 hQ
    have e0 : g1 0 e 0 = ρ := by rw [f.1 0 (by decide)]; exact hq
    have e1 : g1 0 e 1 = n := by rw [f.1 0 (by decide)]; exact hn
    have hk : x = -1 := by omega
    subst hk
    refine o_iload (n := 27) rfl rfl rfl ?_
    refine o_if_lt (n := 30) (t := 102) rfl rfl rfl (fun h27 => ?_) (fun h27 => (by exfalso; omega))
    exact hQ _ _ _ g1 f i2
  | succ k ih =>
    intro x t6 t7 g1 i0 i1 f i2 hQ
    have e0 : g1 0 e 0 = ρ := by rw [f.1 0 (by decide)]; exact hq
    have e1 : g1 0 e 1 = n := by rw [f.1 0 (by decide)]; exact hn
    refine o_iload (n := 27) rfl rfl rfl ?_
    refine o_if_lt (n := 30) (t := 102) rfl rfl rfl (fun h27 => (by exfalso; omega)) (fun h27 => ?_)
    refine o_aload_n (n := 31) rfl rfl rfl ?_
    refine o_geti (n := 34) rfl rfl rfl (ok_0 (by omega) (by omega)) rfl ?_
    rw [e1]
    refine o_iconst (n := 35) rfl rfl ?_
    refine o_isub (n := 36) rfl rfl (by omega) ?_
    refine o_istore_6 (n := 38) rfl rfl rfl ?_
    refine l0_nty hS he he1 hm0 hm1 hn0 hn1 hq hn hb0 hb1 hV hs hs1 (by omega) i1 n.toNat (n - 1) _ g1 (by omega) (by omega) f i2 (fun t6 t7 g1 f i2 => ?_)
    refine o_iinc_5 (n := 99) rfl rfl rfl (by omega) ?_
    refine o_goto (t := 25) rfl rfl ?_
    exact ih (x - 1) _ _ g1 (by omega) (by omega) f (by rw [← ps_y hn0 hn1]; exact i2) hQ
theorem l0_nts (hS : am_St r) (he : 0 ≤ e) (he1 : e < 10) (hm0 : 1 ≤ m) (hm1 : m ≤ 4) (hn0 : 1 ≤ n) (hn1 : n ≤ 3) (hq : g 0 e 0 = ρ) (hn : g 0 e 1 = n) (hb0 : 1 ≤ b) (hb1 : b ≤ 9) (hV : ∀ a b_ c, 0 ≤ a → a < 4 → 0 ≤ b_ → b_ < 3 → 0 ≤ c → c < 3 → g 9 e (a * 9 + b_ * 3 + c) = Et ρ n m b E t a b_ c) : ∀ (k : Nat) (s : Int) (t5 t6 t7 : AV) (g1 : GI), (s + 1 = k) → (s < m) → (U1 e g g1) → (Cn g1 e ρ n m b E t (ps n s (n - 1) (n - 1))) → Ou 7 12 [vR 0 e, vI m, vI b, vI (lo ρ + b), vI s, t5, t6, t7] [] g1 r (fun v g1 r1 => v = none ∧ r1 = r ∧ U1 e g g1 ∧ ∀ a x y, 0 ≤ a → a < 4 → 0 ≤ x → x < 3 → 0 ≤ y → y < 3 → g1 9 e (a * 9 + x * 3 + y) = Et ρ n m b E (t + 1) a x y) := by
  intro k
  induction k with
  | zero =>
    intro s t5 t6 t7 g1 i0 i1 f i2
    have e0 : g1 0 e 0 = ρ := by rw [f.1 0 (by decide)]; exact hq
    have e1 : g1 0 e 1 = n := by rw [f.1 0 (by decide)]; exact hn
    have hk : s = -1 := by omega
    subst hk
    rw [ps_s hn0 hn1] at i2
    refine o_iload (n := 14) rfl rfl rfl ?_
    refine o_if_lt (n := 17) (t := 108) rfl rfl rfl (fun h14 => ?_) (fun h14 => (by exfalso; omega))
    refine o_vret rfl ?_
    refine ⟨rfl, rfl, f, fun a x y a0 a1 b0 b1 c0 c1 => ?_⟩
    rw [i2.1 a x y a0 a1 b0 b1 c0 c1]
    by_cases q : a < m ∧ x < n ∧ y < n
    · have := ps_b hn0 hn1 a0 q.1 b0 q.2.1 c0 q.2.2
      rw [cif_t (by omega)]
    · rw [Et_o q, Et_o q]
      unfold cif
      split <;> rfl
  | succ k ih =>
    intro s t5 t6 t7 g1 i0 i1 f i2
    have e0 : g1 0 e 0 = ρ := by rw [f.1 0 (by decide)]; exact hq
    have e1 : g1 0 e 1 = n := by rw [f.1 0 (by decide)]; exact hn
    refine o_iload (n := 14) rfl rfl rfl ?_
    refine o_if_lt (n := 17) (t := 108) rfl rfl rfl (fun h14 => (by exfalso; omega)) (fun h14 => ?_)
    refine o_aload_n (n := 18) rfl rfl rfl ?_
    refine o_geti (n := 21) rfl rfl rfl (ok_0 (by omega) (by omega)) rfl ?_
    rw [e1]
    refine o_iconst (n := 22) rfl rfl ?_
    refine o_isub (n := 23) rfl rfl (by omega) ?_
    refine o_istore_5 (n := 25) rfl rfl rfl ?_
    refine l0_ntx hS he he1 hm0 hm1 hn0 hn1 hq hn hb0 hb1 hV (by omega) i1 n.toNat (n - 1) _ _ g1 (by omega) (by omega) f i2 (fun t5 t6 t7 g1 f i2 => ?_)
    refine o_iinc_4 (n := 105) rfl rfl rfl (by omega) ?_
    refine o_goto (t := 12) rfl rfl ?_
    exact ih (s - 1) _ _ _ g1 (by omega) (by omega) f (by rw [← ps_x hn0 hn1]; exact i2)
theorem c0_next0 (hS : am_St r) (he : 0 ≤ e) (he1 : e < 10) (hm0 : 1 ≤ m) (hm1 : m ≤ 4) (hn0 : 1 ≤ n) (hn1 : n ≤ 3) (hq : g 0 e 0 = ρ) (hn : g 0 e 1 = n) (hb0 : 1 ≤ b) (hb1 : b ≤ 9) (hV : ∀ a b_ c, 0 ≤ a → a < 4 → 0 ≤ b_ → b_ < 3 → 0 ≤ c → c < 3 → g 9 e (a * 9 + b_ * 3 + c) = Et ρ n m b E t a b_ c) : Ou 7 0 (am_ini 7 [vR 0 e, vI m, vI b]) [] g r (fun v g1 r1 => v = none ∧ r1 = r ∧ U1 e g g1 ∧ ∀ a x y, 0 ≤ a → a < 4 → 0 ≤ x → x < 3 → 0 ≤ y → y < 3 → g1 9 e (a * 9 + x * 3 + y) = Et ρ n m b E (t + 1) a x y) := by
  show Ou 7 0 [vR 0 e, vI m, vI b, vN, vN, vN, vN, vN] [] g r _
  have hlr := lo_r (ρ := ρ)
  refine o_aload_n (n := 1) rfl rfl rfl ?_
  have hlo := c0_lowestDigit (g := g) (r := r) e he he1
  rw [hq] at hlo
  have hlo : Rt 8 [vR 0 e] g r (some (vI (lo ρ))) g r := hlo
  refine o_invi (n := 4) rfl rfl rfl rfl rfl rfl rfl rfl rfl (ok_0 (by omega) (by omega)) (hlo) ?_
  refine o_iload_n (n := 5) rfl rfl rfl ?_
  refine o_iadd (n := 6) rfl rfl (by omega) ?_
  refine o_istore_3 (n := 7) rfl rfl rfl ?_
  refine o_iload_n (n := 8) rfl rfl rfl ?_
  refine o_iconst (n := 9) rfl rfl ?_
  refine o_isub (n := 10) rfl rfl (by omega) ?_
  refine o_istore_4 (n := 12) rfl rfl rfl ?_
  refine l0_nts hS he he1 hm0 hm1 hn0 hn1 hq hn hb0 hb1 hV m.toNat (m - 1) _ _ _ g (by omega) (by omega) (U1_refl e g) ⟨fun a x y a0 a1 b0 b1 c0 c1 => ?_, ?_⟩
  · rw [hV a x y a0 a1 b0 b1 c0 c1, ps_e hn0 hn1]
    by_cases q : a < m ∧ x < n ∧ y < n
    · have := ps_b hn0 hn1 a0 q.1 b0 q.2.1 c0 q.2.2
      rw [cif_f (by omega)]
    · rw [Et_o q, Et_o q]
      unfold cif
      split <;> rfl
  · rw [ps_e hn0 hn1, show (m * n * n - 1 - (m * n * n - 1)).toNat = 0 by omega]
    rfl
theorem c0_nextTry (hS : am_St r) (he : 0 ≤ e) (he1 : e < 10) (hm0 : 1 ≤ m) (hm1 : m ≤ 4) (hb : Br ρ n E) (hb0 : 1 ≤ b) (hb1 : b ≤ 9) (hV : Vr7 g e ρ n (Et ρ n m b E t)) : Ou 7 0 (am_ini 7 [vR 0 e, vI m, vI b]) [] g r (fun v g1 r1 => v = none ∧ r1 = r ∧ U1 e g g1 ∧ Vr7 g1 e ρ n (Et ρ n m b E (t + 1))) := by
  obtain ⟨k, v, g1, r1, h1, h2, h3, h4, h5⟩ := c0_next0 (E := E) (t := t) hS he he1 hm0 hm1 hb.2.1.1 hb.2.1.2 hV.1 hV.2.1 hb0 hb1 (fun a x y a0 a1 b0 b1 c0 c1 => by rw [← hV.2.2 a x y a0 a1 b0 b1 c0 c1, show a * 9 + y + x * 3 = a * 9 + x * 3 + y by omega])
  refine ⟨k, v, g1, r1, h1, h2, h3, h4, by rw [h4.1 0 (by decide)]; exact hV.1, by rw [h4.1 0 (by decide)]; exact hV.2.1, fun s x y a0 a1 b0 b1 c0 c1 => ?_⟩
  rw [show s * 9 + y + x * 3 = s * 9 + x * 3 + y by omega]
  exact h5 s x y a0 a1 b0 b1 c0 c1
def U8 (g g' : GI) : Prop := (∀ k, k ≠ 26 → g' k = g k) ∧ ∀ s, s < 288 → g' 26 0 s = g 26 0 s
theorem U8_refl (g : GI) : U8 g g := ⟨fun _ _ => rfl, fun _ _ => rfl⟩
theorem U8_tr {g g1 g2 : GI} (a : U8 g g1) (b : U8 g1 g2) : U8 g g2 := ⟨fun k h => (b.1 k h).trans (a.1 k h), fun s h => (b.2 s h).trans (a.2 s h)⟩
theorem U8_set {s v : Int} {g g1 : GI} (hs : 288 ≤ s) (h : U8 g g1) : U8 g (gset g1 26 0 s v) := ⟨fun k a => (gset_kf a).trans (h.1 k a), fun s' a => (gset_s (by omega)).trans (h.2 s' a)⟩
theorem dq_p {B t : Int} (hB : 0 < B) (ht : 0 ≤ t) : ∀ {j : Nat}, 0 ≤ dq B t j ∧ dq B t j ≤ t
  | 0 => ⟨ht, Int.le_refl t⟩
  | j + 1 => by
    have ih := dq_p hB ht (j := j)
    show 0 ≤ dq B t j / B ∧ dq B t j / B ≤ t
    have h1 := Int.ediv_nonneg ih.1 (show 0 ≤ B by omega)
    have h2 := Int.ediv_le_self B ih.1
    omega
theorem l8_tells (hS : am_St r) (hm0 : 1 ≤ m) (hm1 : m ≤ 4) (hn0 : 1 ≤ n) (hn1 : n ≤ 3) (hg : g 8 0 5 = m) (hq : g 27 0 8 = ρ) (hn : g 28 0 8 = n) (hb0 : 1 ≤ b) (hb1 : b ≤ 9) (ht : 0 ≤ t) (hV : ∀ a x y, 0 ≤ a → a < 4 → 0 ≤ x → x < 3 → 0 ≤ y → y < 3 → ¬ (a < m ∧ x < n ∧ y < n) → g 26 0 (288 + 9 * a + 3 * x + y) = E a x y) (ht1 : t ≤ 81920) : ∀ (k : Nat) (c q : Int) (t6 t7 : AV) (g1 : GI), (c + 1 = k) → (c < m * n * n) → (q = dq (b + 1) t (m * n * n - 1 - c).toNat) → (U8 g g1) → (∀ a x y, 0 ≤ a → a < 4 → 0 ≤ x → x < 3 → 0 ≤ y → y < 3 → (¬ (a < m ∧ x < n ∧ y < n) ∨ c < ps n a x y) → g1 26 0 (288 + 9 * a + 3 * x + y) = Et ρ n m b E t a x y) → Ou 171 23 [vR 8 0, vI b, vI t, vI n, vI q, vI c, t6, t7] [] g1 r (fun v g1 r1 => v = none ∧ r1 = r ∧ U8 g g1 ∧ ∀ a x y, 0 ≤ a → a < 4 → 0 ≤ x → x < 3 → 0 ≤ y → y < 3 → g1 26 0 (288 + 9 * a + 3 * x + y) = Et ρ n m b E t a x y) := by
  intro k
  induction k with
  | zero =>
    intro c q t6 t7 g1 i0 i1 i2 f i3
    have e0 : g1 27 0 8 = ρ := by rw [f.1 27 (by decide)]; exact hq
    have hmn := mnn_b hm0 hm1 hn0 hn1
    refine o_iload (n := 25) rfl rfl rfl ?_
    refine o_if_lt (n := 28) (t := 107) rfl rfl rfl (fun h25 => ?_) (fun h25 => (by exfalso; omega))
    refine o_vret rfl ?_
    refine ⟨rfl, rfl, f, fun a x y a0 a1 b0 b1 c0 c1 => i3 a x y a0 a1 b0 b1 c0 c1 ?_⟩
    by_cases z : a < m ∧ x < n ∧ y < n
    · have := ps_b hn0 hn1 a0 z.1 b0 z.2.1 c0 z.2.2
      exact Or.inr (by omega)
    · exact Or.inl z
  | succ k ih =>
    intro c q t6 t7 g1 i0 i1 i2 f i3
    have e0 : g1 27 0 8 = ρ := by rw [f.1 27 (by decide)]; exact hq
    have hmn := mnn_b hm0 hm1 hn0 hn1
    have hc := ps_d hn0 hn1 (show 0 ≤ c by omega) i1
    have hqp := dq_p (B := b + 1) (t := t) (by omega) ht (j := (m * n * n - 1 - c).toNat)
    rw [← i2] at hqp
    have hdb := dg_b (b := b) (t := t) hb0 (j := (m * n * n - 1 - c).toNat)
    have hdq : dg (b + 1) t (m * n * n - 1 - c).toNat = q % (b + 1) := by unfold dg; rw [i2]
    rw [hdq] at hdb
    refine o_iload (n := 25) rfl rfl rfl ?_
    refine o_if_lt (n := 28) (t := 107) rfl rfl rfl (fun h25 => (by exfalso; omega)) (fun h25 => ?_)
    refine o_iload (n := 30) rfl rfl rfl ?_
    refine o_iload_n (n := 31) rfl rfl rfl ?_
    refine o_iload_n (n := 32) rfl rfl rfl ?_
    refine o_imul (n := 33) rfl rfl (by omega) ?_
    refine o_irem (n := 34) rfl rfl (by omega) ?_
    refine o_istore_6 (n := 36) rfl rfl rfl ?_
    refine o_iload (n := 38) rfl rfl rfl ?_
    refine o_iload_n (n := 39) rfl rfl rfl ?_
    refine o_iconst (n := 40) rfl rfl ?_
    refine o_iadd (n := 41) rfl rfl (by omega) ?_
    refine o_irem (n := 42) rfl rfl (by omega) ?_
    refine o_istore_7 (n := 44) rfl rfl rfl ?_
    refine o_iload (n := 46) rfl rfl rfl ?_
    refine o_iload_n (n := 47) rfl rfl rfl ?_
    refine o_iconst (n := 48) rfl rfl ?_
    refine o_iadd (n := 49) rfl rfl (by omega) ?_
    refine o_idiv (n := 50) rfl rfl (by omega) ?_
    refine o_istore_4 (n := 52) rfl rfl rfl ?_
    refine o_aload_n (n := 53) rfl rfl rfl ?_
    refine of_8_16 (n := 56) hS rfl rfl ?_
    refine o_sipush (n := 59) rfl rfl ?_
    refine o_bipush (n := 61) rfl rfl ?_
    refine o_iload (n := 63) rfl rfl rfl ?_
    refine o_iload_n (n := 64) rfl rfl rfl ?_
    refine o_iload_n (n := 65) rfl rfl rfl ?_
    refine o_imul (n := 66) rfl rfl (by omega) ?_
    refine o_idiv (n := 67) rfl rfl (by omega) ?_
    refine o_imul (n := 68) rfl rfl (by omega) ?_
    refine o_iadd (n := 69) rfl rfl (by omega) ?_
    refine o_iconst (n := 70) rfl rfl ?_
    refine o_iload (n := 72) rfl rfl rfl ?_
    refine o_iload_n (n := 73) rfl rfl rfl ?_
    refine o_idiv (n := 74) rfl rfl (by omega) ?_
    refine o_imul (n := 75) rfl rfl (by omega) ?_
    refine o_iadd (n := 76) rfl rfl (by omega) ?_
    refine o_iload (n := 78) rfl rfl rfl ?_
    refine o_iload_n (n := 79) rfl rfl rfl ?_
    refine o_irem (n := 80) rfl rfl (by omega) ?_
    refine o_iadd (n := 81) rfl rfl (by omega) ?_
    refine o_aload_n (n := 82) rfl rfl rfl ?_
    refine of_8_17 (n := 85) hS rfl rfl ?_
    refine o_bipush (n := 87) rfl rfl ?_
    refine o_iald (n := 88) (L := 9) rfl rfl rfl rfl rfl (by omega) (by omega) ?_
    refine o_if_ne (n := 91) (t := 96) rfl rfl rfl (fun h88 => ?_) (fun h88 => ?_)
    · refine o_iload (n := 98) rfl rfl rfl ?_
      refine o_iconst (n := 99) rfl rfl ?_
      refine o_isub (n := 100) rfl rfl (by omega) ?_
      refine o_iast (n := 101) (L := 324) rfl rfl rfl rfl rfl (by omega) (by omega) ?_
      refine o_iinc_5 (n := 104) rfl rfl rfl (by omega) ?_
      refine o_goto (t := 23) rfl rfl ?_
      refine ih (c - 1) _ _ _ _ (by omega) (by omega) (by rw [show (m * n * n - 1 - (c - 1)).toNat = (m * n * n - 1 - c).toNat + 1 by omega]; show q / (b + 1) = dq (b + 1) t (m * n * n - 1 - c).toNat / (b + 1); rw [← i2]) (U8_set (by omega) f) (fun a x y a0 a1 b0 b1 c0 c1 w => ?_)
      by_cases z : a = c / (n * n) ∧ x = c % (n * n) / n ∧ y = c % (n * n) % n
      · rw [z.1, z.2.1, z.2.2, gset_at, Et_i ⟨hc.1.2, hc.2.2.1.2, hc.2.2.2.1.2⟩, hc.2.2.2.2, hdq]
        unfold lo
        first | (rw [cif_t (by omega)]; omega) | (rw [cif_f (by omega)]; omega)
      · rw [gset_s (by omega)]
        refine i3 a x y a0 a1 b0 b1 c0 c1 ?_
        by_cases v : a < m ∧ x < n ∧ y < n
        · refine Or.inr ?_
          have hne : ps n a x y ≠ c := fun u => z (ps_i hn0 hn1 hc.2.2.1.1 hc.2.2.1.2 hc.2.2.2.1.1 hc.2.2.2.1.2 b0 v.2.1 c0 v.2.2 (u.trans hc.2.2.2.2.symm))
          rcases w with w | w
          · exact absurd v w
          · omega
        · exact Or.inl v
    · refine o_iload (n := 93) rfl rfl rfl ?_
      refine o_goto (t := 100) rfl rfl ?_
      refine o_iast (n := 101) (L := 324) rfl rfl rfl rfl rfl (by omega) (by omega) ?_
      refine o_iinc_5 (n := 104) rfl rfl rfl (by omega) ?_
      refine o_goto (t := 23) rfl rfl ?_
      refine ih (c - 1) _ _ _ _ (by omega) (by omega) (by rw [show (m * n * n - 1 - (c - 1)).toNat = (m * n * n - 1 - c).toNat + 1 by omega]; show q / (b + 1) = dq (b + 1) t (m * n * n - 1 - c).toNat / (b + 1); rw [← i2]) (U8_set (by omega) f) (fun a x y a0 a1 b0 b1 c0 c1 w => ?_)
      by_cases z : a = c / (n * n) ∧ x = c % (n * n) / n ∧ y = c % (n * n) % n
      · rw [z.1, z.2.1, z.2.2, gset_at, Et_i ⟨hc.1.2, hc.2.2.1.2, hc.2.2.2.1.2⟩, hc.2.2.2.2, hdq]
        unfold lo
        first | (rw [cif_t (by omega)]; omega) | (rw [cif_f (by omega)]; omega)
      · rw [gset_s (by omega)]
        refine i3 a x y a0 a1 b0 b1 c0 c1 ?_
        by_cases v : a < m ∧ x < n ∧ y < n
        · refine Or.inr ?_
          have hne : ps n a x y ≠ c := fun u => z (ps_i hn0 hn1 hc.2.2.1.1 hc.2.2.1.2 hc.2.2.2.1.1 hc.2.2.2.1.2 b0 v.2.1 c0 v.2.2 (u.trans hc.2.2.2.2.symm))
          rcases w with w | w
          · exact absurd v w
          · omega
        · exact Or.inl v
theorem c8_tells0 (hS : am_St r) (hm0 : 1 ≤ m) (hm1 : m ≤ 4) (hn0 : 1 ≤ n) (hn1 : n ≤ 3) (hg : g 8 0 5 = m) (hq : g 27 0 8 = ρ) (hn : g 28 0 8 = n) (hb0 : 1 ≤ b) (hb1 : b ≤ 9) (ht : 0 ≤ t) (hV : ∀ a x y, 0 ≤ a → a < 4 → 0 ≤ x → x < 3 → 0 ≤ y → y < 3 → ¬ (a < m ∧ x < n ∧ y < n) → g 26 0 (288 + 9 * a + 3 * x + y) = E a x y) (ht1 : t ≤ 81920) : Ou 171 0 (am_ini 171 [vR 8 0, vI b, vI t]) [] g r (fun v g1 r1 => v = none ∧ r1 = r ∧ U8 g g1 ∧ ∀ a x y, 0 ≤ a → a < 4 → 0 ≤ x → x < 3 → 0 ≤ y → y < 3 → g1 26 0 (288 + 9 * a + 3 * x + y) = Et ρ n m b E t a x y) := by
  show Ou 171 0 [vR 8 0, vI b, vI t, vN, vN, vN, vN, vN] [] g r _
  have hmn := mnn_b hm0 hm1 hn0 hn1
  refine o_aload_n (n := 1) rfl rfl rfl ?_
  refine of_8_18 (n := 4) hS rfl rfl ?_
  refine o_bipush (n := 6) rfl rfl ?_
  refine o_iald (n := 7) (L := 9) rfl rfl rfl rfl rfl (by omega) (by omega) ?_
  rw [hn]
  refine o_istore_3 (n := 8) rfl rfl rfl ?_
  refine o_iload_n (n := 9) rfl rfl rfl ?_
  refine o_istore_4 (n := 11) rfl rfl rfl ?_
  refine o_aload_n (n := 12) rfl rfl rfl ?_
  refine o_geti (n := 15) rfl rfl rfl rfl rfl ?_
  rw [hg]
  refine o_iload_n (n := 16) rfl rfl rfl ?_
  refine o_imul (n := 17) rfl rfl (by omega) ?_
  refine o_iload_n (n := 18) rfl rfl rfl ?_
  refine o_imul (n := 19) rfl rfl (by omega) ?_
  refine o_iconst (n := 20) rfl rfl ?_
  refine o_isub (n := 21) rfl rfl (by omega) ?_
  refine o_istore_5 (n := 23) rfl rfl rfl ?_
  refine l8_tells hS hm0 hm1 hn0 hn1 hg hq hn hb0 hb1 ht hV ht1 (m * n * n).toNat (m * n * n - 1) t _ _ g (by omega) (by omega) (by rw [show (m * n * n - 1 - (m * n * n - 1)).toNat = 0 by omega]; rfl) (U8_refl g) (fun a x y a0 a1 b0 b1 c0 c1 w => ?_)
  rcases w with w | w
  · rw [hV a x y a0 a1 b0 b1 c0 c1 w, Et_o w]
  · by_cases v : a < m ∧ x < n ∧ y < n
    · have := ps_b hn0 hn1 a0 v.1 b0 v.2.1 c0 v.2.2
      exfalso; omega
    · rw [hV a x y a0 a1 b0 b1 c0 c1 v, Et_o v]
end TRIES
