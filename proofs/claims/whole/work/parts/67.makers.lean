/-! both objects made: bound. Written by wip/gen/gen67.py -/
def cq (g r : GI) : Bool := decide (∀ i : Nat, i < 10 → r 0 (i : Int) 2 = (i : Int)) && decide (∀ i : Nat, i < 17 → r 1 (i : Int) 0 = (i : Int)) && decide (∀ i : Nat, i < 8 → r 2 (i : Int) 0 = 1 + 2 * (i : Int) ∧ r 2 (i : Int) 1 = 2 + 2 * (i : Int)) && decide (∀ i : Nat, i < 4 → r 3 (i : Int) 2 = (i : Int)) && decide (∀ i : Nat, i < 8 → r 4 (i : Int) 0 = 2 + (i : Int)) && decide (r 5 0 0 = 0) && decide (r 7 0 0 = 0 ∧ r 7 0 1 = 0 ∧ r 7 0 2 = 0 ∧ r 7 0 3 = 0 ∧ r 7 0 4 = 0 ∧ r 7 0 5 = 0 ∧ r 7 0 6 = 1 ∧ r 7 0 7 = 0 ∧ r 7 0 8 = 1) && decide (∀ i : Nat, i < 4 → r 16 0 (i : Int) = (i : Int)) && decide (r 8 0 0 = 0 ∧ r 8 0 1 = 0 ∧ r 8 0 2 = 0 ∧ r 8 0 3 = 0 ∧ r 8 0 6 = 0 ∧ r 8 0 9 = 0 ∧ r 8 0 10 = 0 ∧ r 8 0 11 = 0 ∧ r 8 0 13 = 0 ∧ r 8 0 16 = 0 ∧ r 8 0 17 = 0 ∧ r 8 0 18 = 0 ∧ r 8 0 20 = 0 ∧ r 8 0 21 = 0 ∧ r 8 0 22 = 0 ∧ r 8 0 23 = 0 ∧ r 8 0 24 = 0) && decide (∀ i : Nat, i < 8 → r 14 0 (i : Int) = (i : Int)) && decide (∀ i : Nat, i < 8 → r 15 0 (i : Int) = (i : Int)) && decide (∀ i : Nat, i < 2 → r 6 (i : Int) 1 = 2 * (i : Int) ∧ r 6 (i : Int) 2 = 2 * (i : Int) + 1) && decide (g 7 0 9 = 3 ∧ g 8 0 5 = 3 ∧ g 5 0 1 = 0 ∧ g 8 0 7 = 0 ∧ g 7 0 10 = 0 ∧ g 8 0 8 = 0 ∧ g 1 0 1 = 0 ∧ g 8 0 14 = 0 ∧ g 7 0 12 = 0 ∧ g 8 0 15 = 0 ∧ g 0 0 0 = 0 ∧ g 27 0 8 = 0 ∧ g 0 0 1 = 1 ∧ g 28 0 8 = 1 ∧ g 7 0 11 = 0 ∧ g 8 0 19 = 0 ∧ g 7 0 13 = 0 ∧ g 8 0 4 = 0) && decide (∀ t : Nat, t < 36 → g 9 0 (t : Int) = g 26 0 (288 + (t : Int)) ∧ -1 ≤ g 26 0 (288 + (t : Int)) ∧ g 26 0 (288 + (t : Int)) ≤ 999) && decide (∀ s : Nat, s < 4 → g 3 (s : Int) 0 = -1 ∧ g 17 0 (s : Int) = -1 ∧ g 3 (s : Int) 1 = 0 ∧ g 18 0 (s : Int) = 0)
def mkr_c1 : RS := am_ex2 2000 44 0 (am_ini 44 [vR 7 0]) [] (gfil am_g0 7 0 0) (gfil am_r0 7 0 (-1)) 1
def mkr_f2 (q : RS) : RS := match q with
  | some (none, g, r, _) => am_ex2 2000 107 0 (am_ini 107 [vR 8 0]) [] (gfil g 8 0 0) (gfil r 8 0 (-1)) 91
  | _ => none
def mkr_n1 (q : RS) : Bool := match q with
  | some (none, _, _, N) => Nat.beq N 90
  | _ => false
def mkr_q2 (q : RS) : Bool := match q with
  | some (none, g, r, N) => Nat.beq N 108 && cq g r
  | _ => false
set_option maxRecDepth 100000 in
set_option maxHeartbeats 4000000 in
theorem mkr_ok : (mkr_n1 mkr_c1 && mkr_q2 (mkr_f2 mkr_c1)) = true := by decide +kernel
theorem mkr_of {q : RS} (h : (mkr_n1 q && mkr_q2 (mkr_f2 q)) = true) : ∃ G1 R1, q = some (none, G1, R1, 90) ∧ ∃ G2 R2, am_ex2 2000 107 0 (am_ini 107 [vR 8 0]) [] (gfil G1 8 0 0) (gfil R1 8 0 (-1)) 91 = some (none, G2, R2, 108) ∧ cq G2 R2 = true := by
  rw [Bool.and_eq_true] at h
  obtain ⟨h1, h2⟩ := h
  rcases q with _ | ⟨_ | v, g, r, N⟩
  · cases h1
  · have h1 : Nat.beq N 90 = true := h1
    have e := Nat.eq_of_beq_eq_true h1
    subst e
    refine ⟨g, r, rfl, ?_⟩
    have h2 : mkr_q2 (am_ex2 2000 107 0 (am_ini 107 [vR 8 0]) [] (gfil g 8 0 0) (gfil r 8 0 (-1)) 91) = true := h2
    generalize am_ex2 2000 107 0 (am_ini 107 [vR 8 0]) [] (gfil g 8 0 0) (gfil r 8 0 (-1)) 91 = w at h2
    rcases w with _ | ⟨_ | v, g2, r2, N2⟩
    · cases h2
    · have h2 : (Nat.beq N2 108 && cq g2 r2) = true := h2
      rw [Bool.and_eq_true] at h2
      have e := Nat.eq_of_beq_eq_true h2.1
      subst e
      exact ⟨g2, r2, rfl, h2.2⟩
    · cases h2
  · cases h1
theorem Iv_start {g r : GI} (h : cq g r = true) : Iv 0 g g r := by
  unfold cq at h
  simp only [Bool.and_eq_true, decide_eq_true_eq] at h
  obtain ⟨⟨⟨⟨⟨⟨⟨⟨⟨⟨⟨⟨⟨⟨q0, q1⟩, q2⟩, q3⟩, q4⟩, q5⟩, q6⟩, q7⟩, q8⟩, q9⟩, q10⟩, q11⟩, q12⟩, q13⟩, q14⟩ := h
  have cv : ∀ {n : Nat} {P : Int → Prop}, (∀ i : Nat, i < n → P (i : Int)) → ∀ i : Int, 0 ≤ i → i < n → P i := fun {n P} H i i0 i1 => by
    obtain ⟨k, rfl⟩ := Int.eq_ofNat_of_zero_le i0
    exact H k (by omega)
  have k14 := cv (P := fun i => r 14 0 i = i) q9
  have k15 := cv (P := fun i => r 15 0 i = i) q10
  have k6 := cv (P := fun i => r 6 i 1 = 2 * i ∧ r 6 i 2 = 2 * i + 1) q11
  have k9 := cv (P := fun t => g 9 0 t = g 26 0 (288 + t) ∧ -1 ≤ g 26 0 (288 + t) ∧ g 26 0 (288 + t) ≤ 999) q13
  have k3 := cv (P := fun s => g 3 s 0 = -1 ∧ g 17 0 s = -1 ∧ g 3 s 1 = 0 ∧ g 18 0 s = 0) q14
  obtain ⟨v0, v1, v2, v3, v4, v5, v6, v7, v8, v9, v10, v11, v12, v13, v14, v15, v16, v17⟩ := q12
  refine ⟨⟨⟨cv (P := fun i => r 0 i 2 = i) q0, cv (P := fun i => r 1 i 0 = i) q1, cv (P := fun i => r 2 i 0 = 1 + 2 * i ∧ r 2 i 1 = 2 + 2 * i) q2, cv (P := fun i => r 3 i 2 = i) q3, cv (P := fun i => r 4 i 0 = 2 + i) q4, q5, q6, cv (P := fun i => r 16 0 i = i) q7, q8⟩, ⟨fun j a b => ?_, fun j a b => ?_, fun i a b => ?_⟩, fun i a b => Or.inl (k6 i a b), ⟨fun i j a b d e z => ?_, fun i j a b d e z => ?_⟩⟩, ⟨by omega, by omega, by omega⟩, ⟨by omega, by omega, by omega, fun k a b => by omega⟩, ⟨⟨by omega, fun i a b => by omega⟩, ⟨by omega, fun i a b => by omega⟩, fun i a b => by omega⟩, ⟨⟨by omega, fun k a b => by omega⟩, ⟨by omega, fun k a b => by omega⟩, by omega, by omega, by omega⟩, ⟨⟨by omega, by omega, fun s z y a0 a1 b0 b1 c0 c1 => ?_⟩, ⟨by omega, by omega⟩, ⟨by omega, by omega⟩, fun s z y a0 a1 b0 b1 c0 c1 => ?_⟩, Ist_n (by omega) (by omega), fun s a b => ⟨⟨?_, ?_, ?_⟩, ⟨?_, ?_, ?_⟩, fun i x y => ?_⟩, ?_⟩
  · have := k14 j a b; omega
  · have := k15 j a b; omega
  · have := k6 i a b; omega
  · have h1 := k14 i a b; have h2 := k14 j d e; omega
  · have h1 := k15 i a b; have h2 := k15 j d e; omega
  · have h1 := k9 (s * 9 + y + z * 3) (by omega) (by omega)
    rw [E8_i a0 a1 b0 b1 c0 c1, show 36 * 8 + 9 * s + 3 * z + y = 288 + (s * 9 + y + z * 3) by omega]
    exact h1.1
  · have h1 := k9 (s * 9 + y + z * 3) (by omega) (by omega)
    rw [E8_i a0 a1 b0 b1 c0 c1, show 36 * 8 + 9 * s + 3 * z + y = 288 + (s * 9 + y + z * 3) by omega]
    exact h1.2
  · have h1 := k3 s a b; omega
  · have h1 := k3 s a b; omega
  · have h1 := k3 s a b; omega
  · have h1 := k3 s a b; omega
  · have h1 := k3 s a b; omega
  · have h1 := k3 s a b; omega
  · have h1 := k3 s a b; omega
  · show g 7 0 13 = g 8 0 4; omega

