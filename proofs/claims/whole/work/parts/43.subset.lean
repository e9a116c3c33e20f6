/-! what falls was standing. Written by wip/gen/gen43.py -/
theorem tb_shlk : ∀ i : Nat, i < 8 → ∀ k : Nat, k < 32 → tb (am_shl 1 (i : Int)) k = decide (k = i) := by decide +kernel
theorem fbl_tb {gr : Int → Int} {st : Int} : ∀ {n i : Nat} {acc : Int} {k : Nat}, i + n ≤ 8 → k < 32 → tb (fbl gr st n (i : Int) acc) k = true → tb acc k = true ∨ (i ≤ k ∧ k < i + n ∧ tb st k = true)
  | 0, i, acc, k, _, _, h => Or.inl h
  | n + 1, i, acc, k, hi, hk, h => by
    rw [fbl_s] at h
    have e : (i : Int) + 1 = ((i + 1 : Nat) : Int) := by omega
    by_cases c : bt st (i : Int)
    · rw [cif_t c] at h
      by_cases d : gr (i : Int) = 0
      · rw [cif_t d, tb_0] at h; cases h
      · rw [cif_f d, e] at h
        rcases fbl_tb (n := n) (i := i + 1) (by omega) hk h with h1 | ⟨h1, h2, h3⟩
        · by_cases f : gr (i : Int) = 2
          · rw [cif_t f, tb_or, Bool.or_eq_true] at h1
            rcases h1 with h1 | h1
            · exact Or.inl h1
            · rw [tb_shlk i (by omega) k hk] at h1
              have h2 : k = i := of_decide_eq_true h1
              subst h2
              have h3 := (bt_tb (x := st) (k := (k : Int)) (by omega) (by omega)).mp c
              exact Or.inr ⟨by omega, by omega, h3⟩
          · rw [cif_f f] at h1; exact Or.inl h1
        · exact Or.inr ⟨by omega, by omega, h3⟩
    · rw [cif_f c, e] at h
      rcases fbl_tb (n := n) (i := i + 1) (by omega) hk h with h1 | ⟨h1, h2, h3⟩
      · exact Or.inl h1
      · exact Or.inr ⟨by omega, by omega, h3⟩
theorem FB_tb {ρ n : Int} {E : Int → Int → Int → Int} {m R : Int} {L : Int → Int → Int} {W : Int → Int → Int → Int} {st : Int} (hR : R ≤ 8) {k : Nat} (hk : k < 32) (h : tb (FB ρ n E m R L W st) k = true) : (k : Int) < R ∧ tb st k = true := by
  unfold FB at h
  by_cases c : sd ρ n E m
  · rw [cif_t c] at h
    rcases fbl_tb (n := R.toNat) (i := 0) (by omega) hk h with h1 | ⟨h1, h2, h3⟩
    · rw [tb_0] at h1; cases h1
    · exact ⟨by omega, h3⟩
  · rw [cif_f c, tb_0] at h; cases h
theorem ex_tb {x : Int} (hx : inI x) (h : x ≠ 0) : ∃ k, k < 32 ∧ tb x k = true := by
  apply Classical.byContradiction
  intro hn
  refine h (tb_ext hx ⟨by omega, by omega⟩ (fun i hi => ?_))
  rw [tb_0]
  cases q : tb x i with
  | false => rfl
  | true => exact absurd ⟨i, hi, q⟩ hn
