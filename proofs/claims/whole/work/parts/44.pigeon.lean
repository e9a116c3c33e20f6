/-! there is room for a stage where a rule falls. Written by wip/gen/gen44.py -/
def cntb (x : Int) : Nat → Nat
  | 0 => 0
  | n + 1 => cntb x n + (tb x n).toNat
theorem cntb_le (x : Int) : ∀ n, cntb x n ≤ n
  | 0 => Nat.le_refl 0
  | n + 1 => by
    have := cntb_le x n
    unfold cntb
    cases tb x n <;> simp <;> omega
theorem cntb_mono {x y : Int} : ∀ {n : Nat}, (∀ k, k < n → tb y k = true → tb x k = true) → cntb y n ≤ cntb x n
  | 0, _ => Nat.le_refl 0
  | n + 1, h => by
    have ih := cntb_mono (n := n) (fun k a b => h k (by omega) b)
    have hn := h n (by omega)
    unfold cntb
    cases e : tb y n with
    | false => simp; omega
    | true => rw [hn e]; simp; omega
theorem cntb_lt {x y : Int} : ∀ {n : Nat} {j : Nat}, (∀ k, k < n → tb y k = true → tb x k = true) → j < n → tb x j = true → tb y j = false → cntb y n + 1 ≤ cntb x n
  | 0, _, _, h, _, _ => by omega
  | n + 1, j, h, hj, h1, h2 => by
    by_cases e : j = n
    · subst e
      have ih := cntb_mono (n := j) (fun k a b => h k (by omega) b)
      unfold cntb
      rw [h1, h2]; simp; omega
    · have ih := cntb_lt (n := n) (j := j) (fun k a b => h k (by omega) b) (by omega) h1 h2
      have hn := h n (by omega)
      unfold cntb
      cases q : tb y n with
      | false => simp; omega
      | true => rw [hn q]; simp; omega
theorem lp_l {α : Type} {f : Int → α → α} : ∀ {n : Nat} {k : Int} {x : α}, lp (n + 1) k f x = f (k + n) (lp n k f x)
  | 0, k, x => by show f k x = f (k + (0 : Nat)) x; rw [show k + ((0 : Nat) : Int) = k by omega]
  | n + 1, k, x => by
    have ih := lp_l (f := f) (n := n) (k := k + 1) (x := f k x)
    have e1 : lp (n + 1 + 1) k f x = lp (n + 1) (k + 1) f (f k x) := rfl
    have e2 : lp (n + 1) k f x = lp n (k + 1) f (f k x) := rfl
    rw [e1, e2, ih, show k + 1 + (n : Int) = k + ((n + 1 : Nat) : Int) by omega]
theorem st8_s {h : GI} (n : Nat) : st8 h ((n + 1 : Nat) : Int) = am_and (st8 h (n : Int)) (am_xor (h 29 0 (n : Int)) (-1)) := by
  unfold st8 lb
  rw [show ((n + 1 : Nat) : Int).toNat = n + 1 by omega, show ((n : Nat) : Int).toNat = n by omega, lp_l, Int.zero_add]
  rfl
theorem fbl_in {gr : Int → Int} {st : Int} : ∀ {n : Nat} {i acc : Int}, inI acc → inI (fbl gr st n i acc)
  | 0, _, _, h => h
  | n + 1, i, acc, h => by
    rw [fbl_s]
    by_cases c : bt st i
    · rw [cif_t c]
      by_cases d : gr i = 0
      · rw [cif_t d]; omega
      · rw [cif_f d]
        by_cases e : gr i = 2
        · rw [cif_t e]; exact fbl_in (inI_or _ _)
        · rw [cif_f e]; exact fbl_in h
    · rw [cif_f c]; exact fbl_in h
theorem FB_in {h : GI} {d st : Int} : inI (FB8 h d st) := by
  unfold FB8 FB
  by_cases c : sd (h 27 0 d) (h 28 0 d) (E8 h d) (h 8 0 5)
  · rw [cif_t c]; exact fbl_in (by omega)
  · rw [cif_f c]; omega
theorem st_cnt {g h r : GI} (i : Ist g h r) (hR : h 8 0 8 ≤ 8) : ∀ n : Nat, (n : Int) ≤ h 8 0 19 → cntb (st8 h (n : Int)) 8 + n ≤ 8
  | 0, _ => by have := cntb_le (st8 h ((0 : Nat) : Int)) 8; omega
  | n + 1, hn => by
    have ih := st_cnt i hR n (by omega)
    obtain ⟨_, _, _, x1, x2⟩ := i.2.2.2 (n : Int) (by omega) (by omega)
    have hx : inI (h 29 0 (n : Int)) := by rw [x2]; exact FB_in
    obtain ⟨k, k0, k1⟩ := ex_tb hx x1
    have k2 := k1
    rw [x2] at k2
    unfold FB8 at k2
    obtain ⟨k3, k4⟩ := FB_tb hR k0 k2
    have := cntb_lt (x := st8 h (n : Int)) (y := st8 h ((n + 1 : Nat) : Int)) (n := 8) (j := k) (fun q q0 q1 => by
      rw [st8_s, tb_and, Bool.and_eq_true] at q1; exact q1.1) (by omega) k4 (by
      rw [st8_s, tb_and, tb_xor, k1, tb_m1 k k0, k4]; rfl)
    omega
/-- room for one more -/
theorem st_room {g h r : GI} (i : Ist g h r) (hR : h 8 0 8 ≤ 8) {d : Int} (hf : FB8 h d (st8 h (h 8 0 19)) ≠ 0) : h 8 0 19 < 8 := by
  have i0 := i.2.1
  obtain ⟨k, k0, k1⟩ := ex_tb (x := FB8 h d (st8 h (h 8 0 19))) FB_in hf
  unfold FB8 at k1
  obtain ⟨k3, k4⟩ := FB_tb hR k0 k1
  have h1 := st_cnt i hR (h 8 0 19).toNat (by omega)
  rw [show (((h 8 0 19).toNat : Nat) : Int) = h 8 0 19 by omega] at h1
  have h2 := cntb_lt (x := st8 h (h 8 0 19)) (y := 0) (n := 8) (j := k) (fun q _ q1 => by rw [tb_0] at q1; cases q1) (by omega) k4 (tb_0 k)
  omega
