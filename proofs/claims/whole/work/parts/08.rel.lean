/-! the abstract machine's words and cells, as the machine has them: B the place of the first cell, S the script's -/
def am_ad (B S k : Nat) (i : Int) : Nat := if k = 34 then S else B + am_off k i
def am_cv (B S : Nat) : AV → Value
  | .inl x => .int (Int32.ofInt x)
  | .inr (.inl x) => .long (Int64.ofInt x)
  | .inr (.inr (.inl q)) => .ref (am_ad B S q.1 q.2)
  | .inr (.inr (.inr _)) => .int 0
def am_lv (B S : Nat) : Nat → List AV → List (Nat × Value)
  | _, [] => []
  | i, v :: t => if am_isN v = true then am_lv B S (i + 1) t else (i, am_cv B S v) :: am_lv B S (i + 1) t
theorem am_lv_in {B S : Nat} : ∀ {ls : List AV} {i k : Nat}, am_isN (am_nth ls k) = false → (i + k, am_cv B S (am_nth ls k)) ∈ am_lv B S i ls
  | [], _, _, h => by cases h
  | v :: t, i, 0, h => by
    unfold am_lv
    rw [if_neg (by rw [show am_nth (v :: t) 0 = v from rfl] at h; rw [h]; decide)]
    exact List.mem_cons_self
  | v :: t, i, k + 1, h => by
    have h1 := am_lv_in (B := B) (S := S) (ls := t) (i := i + 1) (k := k) h
    rw [show i + 1 + k = i + (k + 1) by omega] at h1
    unfold am_lv
    split
    · exact h1
    · exact List.mem_cons_of_mem _ h1
theorem am_lv_of {B S : Nat} : ∀ {ls : List AV} {i : Nat} {q : Nat × Value}, q ∈ am_lv B S i ls → ∃ k, q.1 = i + k ∧ am_isN (am_nth ls k) = false ∧ q.2 = am_cv B S (am_nth ls k)
  | [], _, _, h => by cases h
  | v :: t, i, q, h => by
    unfold am_lv at h
    split at h
    · obtain ⟨k, h1, h2, h3⟩ := am_lv_of h
      exact ⟨k + 1, by omega, h2, h3⟩
    · rename_i hv
      rcases List.mem_cons.mp h with rfl | h
      · exact ⟨0, rfl, by simpa [am_nth] using hv, rfl⟩
      · obtain ⟨k, h1, h2, h3⟩ := am_lv_of h
        exact ⟨k + 1, by omega, h2, h3⟩
theorem am_nth_set : ∀ (ls : List AV) (k : Nat) (v : AV) (j : Nat), am_nth (am_set ls k v) j = if j = k ∧ k < ls.length then v else am_nth ls j
  | [], k, v, j => by rw [if_neg (by simp)]; rfl
  | a :: t, 0, v, j => by
    cases j with
    | zero => rw [if_pos ⟨rfl, by simp⟩]; rfl
    | succ j => rw [if_neg (by omega)]; rfl
  | a :: t, k + 1, v, j => by
    cases j with
    | zero => rw [if_neg (by omega)]; rfl
    | succ j =>
      show am_nth (am_set t k v) j = _
      rw [am_nth_set t k v j]
      by_cases h : j = k ∧ k < t.length
      · rw [if_pos h, if_pos ⟨by omega, by simp; omega⟩]
      · rw [if_neg h, if_neg (by intro z; exact h ⟨by omega, by have := z.2; simp at this; omega⟩)]; rfl
theorem am_nth_lt : ∀ {ls : List AV} {k : Nat}, am_isN (am_nth ls k) = false → k < ls.length
  | [], _, h => by cases h
  | _ :: _, 0, _ => by simp
  | _ :: t, k + 1, h => by
    have := am_nth_lt (ls := t) (k := k) h
    simp; omega
theorem am_cat {B S : Nat} (v : AV) : (am_cv B S v).category = if am_isL v = true then 2 else 1 := by
  rcases v with x | x | q | u <;> rfl
theorem am_pre_of {ls : List AV} {j k : Nat} (h : am_pre ls k = false) (hj : j + 1 = k) : am_isL (am_nth ls j) = false := by
  subst hj
  exact h
/-- the locals behind a store of one word -/
theorem am_st1 {B S nL : Nat} {lc : Array Slot} {ls : List AV} {k : Nat} {v : AV} {w : Value} (hw : am_cv B S v = w) (hk : k < ls.length) (hp : am_pre ls k = false)
    (h : lv_has lc nL ((k, w) :: (am_lv B S 0 ls).filter (fun q => !(q.1 == k) && !(q.1 + 1 == k && q.2.category == 2)))) : lv_has lc nL (am_lv B S 0 (am_set ls k v)) := by
  refine ⟨h.1, h.2.1, fun q hq => h.2.2 q ?_⟩
  obtain ⟨j, h1, h2, h3⟩ := am_lv_of hq
  have e : q = (j, q.2) := by rw [← show 0 + j = j by omega, ← h1]
  rw [am_nth_set] at h2 h3
  by_cases hj : j = k
  · rw [if_pos ⟨hj, hk⟩] at h3
    rw [e, h3, hj, hw]
    exact List.mem_cons_self
  · rw [if_neg (fun z => hj z.1)] at h2 h3
    refine List.mem_cons_of_mem _ (List.mem_filter.mpr ⟨?_, ?_⟩)
    · have h4 := am_lv_in (B := B) (S := S) (i := 0) h2
      rw [Nat.zero_add] at h4
      rw [e, h3]
      exact h4
    · rw [e, h3]
      have c1 : (j == k) = false := by simpa using hj
      by_cases hc : j + 1 = k
      · have := am_pre_of hp hc
        simp [c1, am_cat, this]
      · have c2 : (j + 1 == k) = false := by simpa using hc
        simp [c1, c2]
/-- the locals behind a store of a long -/
theorem am_st2 {B S nL : Nat} {lc : Array Slot} {ls : List AV} {k : Nat} {v : AV} {w : Value} (hw : am_cv B S v = w) (hk : k + 1 < ls.length) (hp : am_pre ls k = false)
    (h : lv_has lc nL ((k, w) :: (am_lv B S 0 ls).filter (fun q => !(q.1 == k) && (!(q.1 == k + 1) && !(q.1 + 1 == k && q.2.category == 2))))) : lv_has lc nL (am_lv B S 0 (am_set (am_set ls k v) (k + 1) vN)) := by
  refine ⟨h.1, h.2.1, fun q hq => h.2.2 q ?_⟩
  obtain ⟨j, h1, h2, h3⟩ := am_lv_of hq
  have e : q = (j, q.2) := by rw [← show 0 + j = j by omega, ← h1]
  rw [am_nth_set] at h2 h3
  by_cases hj1 : j = k + 1
  · rw [if_pos ⟨hj1, by rw [am_setlen]; exact hk⟩] at h2
    cases h2
  rw [if_neg (fun z => hj1 z.1), am_nth_set] at h2 h3
  by_cases hj : j = k
  · rw [if_pos ⟨hj, by omega⟩] at h3
    rw [e, h3, hj, hw]
    exact List.mem_cons_self
  · rw [if_neg (fun z => hj z.1)] at h2 h3
    refine List.mem_cons_of_mem _ (List.mem_filter.mpr ⟨?_, ?_⟩)
    · have h4 := am_lv_in (B := B) (S := S) (i := 0) h2
      rw [Nat.zero_add] at h4
      rw [e, h3]
      exact h4
    · rw [e, h3]
      have c1 : (j == k) = false := by simpa using hj
      have c3 : (j == k + 1) = false := by simpa using hj1
      by_cases hc : j + 1 = k
      · have := am_pre_of hp hc
        simp [c1, c3, am_cat, this]
      · have c2 : (j + 1 == k) = false := by simpa using hc
        simp [c1, c2, c3]
/-- numbers -/
theorem am_toI {x : Int} (h : inI x) : (Int32.ofInt x).toInt = x := Int32.toInt_ofInt_of_le (by have := h.1; omega) (by have := h.2; omega)
theorem am_toL {x : Int} (h : inL x) : (Int64.ofInt x).toInt = x := Int64.toInt_ofInt_of_le (by have := h.1; omega) (by have := h.2; omega)
theorem am_eqI {x y : Int} (hx : inI x) (hy : inI y) : Int32.ofInt x = Int32.ofInt y ↔ x = y := by
  rw [← Int32.toInt_inj, am_toI hx, am_toI hy]
theorem am_leI {x y : Int} (hx : inI x) (hy : inI y) : Int32.ofInt x ≤ Int32.ofInt y ↔ x ≤ y := by
  rw [Int32.le_iff_toInt_le, am_toI hx, am_toI hy]
theorem am_ltI {x y : Int} (hx : inI x) (hy : inI y) : Int32.ofInt x < Int32.ofInt y ↔ x < y := by
  rw [Int32.lt_iff_toInt_lt, am_toI hx, am_toI hy]
theorem am_clI {x : Int} (hx : inI x) (h0 : 0 ≤ x) : (Int32.ofInt x).toNatClampNeg = x.toNat := by
  show (Int32.ofInt x).toInt.toNat = _
  rw [am_toI hx]
theorem am_inN {x : Int} {n : Nat} (hx : inI x) (h0 : 0 ≤ x) (h1 : x < n) : vp_in (Int32.ofInt x) n := by
  rw [vp_in_iff, am_toI hx]
  exact ⟨h0, h1⟩
theorem am_divI {x y : Int} (hx : inI x) (hy : inI y) (h0 : 0 ≤ x) (h1 : 0 < y) : Int32.ofInt x / Int32.ofInt y = Int32.ofInt (x / y) := by
  obtain ⟨a, rfl⟩ := Int.eq_ofNat_of_zero_le h0
  obtain ⟨b, rfl⟩ := Int.eq_ofNat_of_zero_le (Int.le_of_lt h1)
  rw [show ((a : Int) / (b : Int)) = ((a / b : Nat) : Int) from rfl, Int32.ofInt_eq_ofNat, Int32.ofInt_eq_ofNat, Int32.ofInt_eq_ofNat]
  exact pk_div (by have := hx.2; omega) (by omega) (by have := hy.2; omega)
theorem am_remI {x y : Int} (hx : inI x) (hy : inI y) (h0 : 0 ≤ x) (h1 : 0 < y) : Int32.ofInt x - Int32.ofInt x / Int32.ofInt y * Int32.ofInt y = Int32.ofInt (x % y) := by
  obtain ⟨a, rfl⟩ := Int.eq_ofNat_of_zero_le h0
  obtain ⟨b, rfl⟩ := Int.eq_ofNat_of_zero_le (Int.le_of_lt h1)
  rw [show ((a : Int) % (b : Int)) = ((a % b : Nat) : Int) from rfl, Int32.ofInt_eq_ofNat, Int32.ofInt_eq_ofNat, Int32.ofInt_eq_ofNat]
  exact pk_rem (by have := hx.2; omega) (by omega) (by have := hy.2; omega)
theorem am_cmpL {x y : Int} (hx : inL x) (hy : inL y) : lg_cmp (Int64.ofInt x) (Int64.ofInt y) = Int32.ofInt (am_cmp x y) := by
  unfold lg_cmp am_cmp
  have h1 : (Int64.ofInt x > Int64.ofInt y) ↔ y < x := by
    show Int64.ofInt y < Int64.ofInt x ↔ _
    rw [Int64.lt_iff_toInt_lt, am_toL hx, am_toL hy]
  have h2 : (Int64.ofInt x = Int64.ofInt y) ↔ x = y := by
    rw [← Int64.toInt_inj, am_toL hx, am_toL hy]
  by_cases h : y < x
  · rw [if_pos (h1.mpr h), if_pos h]; rfl
  · rw [if_neg (fun z => h (h1.mp z)), if_neg h]
    by_cases h' : x = y
    · rw [if_pos (h2.mpr h'), if_pos h']; rfl
    · rw [if_neg (fun z => h' (h2.mp z)), if_neg h']; rfl
theorem am_bip {n : Int} (h1 : -128 ≤ n) (h2 : n ≤ 127) : (Int8.ofInt n).toInt32 = Int32.ofInt n := by
  rw [← Int32.toInt_inj, am_toI ⟨by omega, by omega⟩, Int8.toInt_toInt32]
  exact Int8.toInt_ofInt_of_le (by omega) (by omega)
theorem am_sip {n : Int} (h1 : -32768 ≤ n) (h2 : n ≤ 32767) : (Int16.ofInt n).toInt32 = Int32.ofInt n := by
  rw [← Int32.toInt_inj, am_toI ⟨by omega, by omega⟩, Int16.toInt_toInt32]
  exact Int16.toInt_ofInt_of_le (by omega) (by omega)
theorem am_i2lv {x : Int} (hx : inI x) : (Int32.ofInt x).toInt64 = Int64.ofInt x := by
  rw [← Int64.toInt_inj, am_toL (am_inIL hx), Int32.toInt_toInt64, am_toI hx]
theorem am_l2iv (x : Int) : (Int64.ofInt x).toInt32 = Int32.ofInt (am_wi x) := by
  unfold am_wi
  rw [Int32.ofInt_toInt]
  rw [← Int32.toInt_inj]
  show (Int32.ofInt (Int64.ofInt x).toInt).toInt = _
  rw [Int32.toInt_ofInt, Int32.toInt_ofInt, Int64.toInt_ofInt]
  exact Int.bmod_bmod_of_dvd (by decide)
