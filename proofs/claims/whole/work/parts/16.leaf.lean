/-! truth values as answers; references that change within bounds. Written by wip/gen/gen16.py -/
def bi (p : Prop) [Decidable p] : Int := if p then 1 else 0
theorem bi_t {p : Prop} [Decidable p] (h : p) : bi p = 1 := if_pos h
theorem bi_f {p : Prop} [Decidable p] (h : ¬ p) : bi p = 0 := if_neg h
theorem bi_01 (p : Prop) [Decidable p] : bi p = 0 ∨ bi p = 1 := by
  by_cases h : p
  · exact Or.inr (bi_t h)
  · exact Or.inl (bi_f h)
theorem bi_congr {p q : Prop} [Decidable p] [Decidable q] (h : p ↔ q) : bi p = bi q := by
  by_cases hp : p
  · rw [bi_t hp, bi_t (h.mp hp)]
  · rw [bi_f hp, bi_f (fun z => hp (h.mpr z))]
def am_Rg (r : GI) : Prop := (∀ j, 0 ≤ j → j < 8 → 0 ≤ r 14 0 j ∧ r 14 0 j < 8) ∧ (∀ j, 0 ≤ j → j < 8 → 0 ≤ r 15 0 j ∧ r 15 0 j < 8) ∧ (∀ i, 0 ≤ i → i < 2 → 0 ≤ r 6 i 1 ∧ r 6 i 1 < 4 ∧ 0 ≤ r 6 i 2 ∧ r 6 i 2 < 4)
section OU2
variable {m pc n : Nat} {ls st : List AV} {g r : GI} {Q : Option AV → GI → GI → Prop} {a : Int} {b c d : Nat}
theorem o_ifb_eq {p : Prop} [Decidable p] {z : Int} {t : Nat} (h : am_code m pc = some (.ifCond .eq z, 3, a, b, c, d)) (hp : pc + 3 = n) (ht : a.toNat = t) (kt : ¬ p → Ou m t ls st g r Q) (kf : p → Ou m n ls st g r Q) : Ou m pc ls (vI (bi p) :: st) g r Q := by
  by_cases hc : p
  · exact o_if_eq h hp ht (fun z => absurd z (by rw [bi_t hc]; decide)) (fun _ => kf hc)
  · exact o_if_eq h hp ht (fun _ => kt hc) (fun z => absurd (bi_f hc) z)
theorem o_ifb_ne {p : Prop} [Decidable p] {z : Int} {t : Nat} (h : am_code m pc = some (.ifCond .ne z, 3, a, b, c, d)) (hp : pc + 3 = n) (ht : a.toNat = t) (kt : p → Ou m t ls st g r Q) (kf : ¬ p → Ou m n ls st g r Q) : Ou m pc ls (vI (bi p) :: st) g r Q := by
  by_cases hc : p
  · exact o_if_ne h hp ht (fun _ => kt hc) (fun z => absurd z (by rw [bi_t hc]; decide))
  · exact o_if_ne h hp ht (fun z => absurd (bi_f hc) z) (fun _ => kf hc)
theorem o_ra14 {j : Int} (hR : am_Rg r) (h : am_code m pc = some (.aaload, 1, a, b, c, d)) (hp : pc + 1 = n) (h0 : 0 ≤ j) (h1 : j < 8) (kk : 0 ≤ r 14 0 j → r 14 0 j < 8 → Ou m n ls (vR 2 (r 14 0 j) :: st) g r Q) : Ou m pc ls (vI j :: vR 14 0 :: st) g r Q := o_rald h hp rfl rfl rfl rfl h0 h1 rfl (hR.1 j h0 h1).1 (kk (hR.1 j h0 h1).1 (hR.1 j h0 h1).2)
theorem o_ra15 {j : Int} (hR : am_Rg r) (h : am_code m pc = some (.aaload, 1, a, b, c, d)) (hp : pc + 1 = n) (h0 : 0 ≤ j) (h1 : j < 8) (kk : 0 ≤ r 15 0 j → r 15 0 j < 8 → Ou m n ls (vR 4 (r 15 0 j) :: st) g r Q) : Ou m pc ls (vI j :: vR 15 0 :: st) g r Q := o_rald h hp rfl rfl rfl rfl h0 h1 rfl (hR.2.1 j h0 h1).1 (kk (hR.2.1 j h0 h1).1 (hR.2.1 j h0 h1).2)
theorem of_6_1 {i : Int} {z : Nat} (hR : am_Rg r) (h : am_code m pc = some (.getfield z, 3, 1, 6, c, d)) (hp : pc + 3 = n) (h0 : 0 ≤ i) (h1 : i < 2) (kk : 0 ≤ r 6 i 1 → r 6 i 1 < 4 → Ou m n ls (vR 13 (r 6 i 1) :: st) g r Q) : Ou m pc ls (vR 6 i :: st) g r Q := o_getr h hp rfl (ok_6 h0 h1) rfl rfl rfl (hR.2.2 i h0 h1).1 (kk (hR.2.2 i h0 h1).1 (hR.2.2 i h0 h1).2.1)
theorem of_6_2 {i : Int} {z : Nat} (hR : am_Rg r) (h : am_code m pc = some (.getfield z, 3, 2, 6, c, d)) (hp : pc + 3 = n) (h0 : 0 ≤ i) (h1 : i < 2) (kk : 0 ≤ r 6 i 2 → r 6 i 2 < 4 → Ou m n ls (vR 13 (r 6 i 2) :: st) g r Q) : Ou m pc ls (vR 6 i :: st) g r Q := o_getr h hp rfl (ok_6 h0 h1) rfl rfl rfl (hR.2.2 i h0 h1).2.2.1 (kk (hR.2.2 i h0 h1).2.2.1 (hR.2.2 i h0 h1).2.2.2)
end OU2
section LEAF
variable {g r : GI}
theorem c8_in (v lo hi : Int) : Rt 108 [vL v, vL lo, vL hi] g r (some (vI (bi (lo ≤ v ∧ v ≤ hi)))) g r := by
  refine rt_of ?_
  show Ou 108 0 [vL v, vN, vL lo, vN, vL hi, vN] [] g r _
  refine o_lload_n (n := 1) rfl rfl rfl ?_
  refine o_lload_n (n := 2) rfl rfl rfl ?_
  refine o_lcmp_lt (n := 6) (t := 17) rfl rfl rfl rfl (fun h2 => ?_) (fun h2 => ?_)
  · refine o_iconst (n := 18) rfl rfl ?_
    refine o_zret rfl rfl (by omega) ?_
    exact ⟨by first | rw [bi_f (by omega)] | rw [bi_t (by omega)], rfl, rfl⟩
  · refine o_lload_n (n := 7) rfl rfl rfl ?_
    refine o_lload (n := 9) rfl rfl rfl ?_
    refine o_lcmp_gt (n := 13) (t := 17) rfl rfl rfl rfl (fun h9 => ?_) (fun h9 => ?_)
    · refine o_iconst (n := 18) rfl rfl ?_
      refine o_zret rfl rfl (by omega) ?_
      exact ⟨by first | rw [bi_f (by omega)] | rw [bi_t (by omega)], rfl, rfl⟩
    · refine o_iconst (n := 14) rfl rfl ?_
      refine o_goto (t := 18) rfl rfl ?_
      refine o_zret rfl rfl (by omega) ?_
      exact ⟨by first | rw [bi_f (by omega)] | rw [bi_t (by omega)], rfl, rfl⟩
theorem c8_isTwo (v : Int) : Rt 109 [vI v] g r (some (vI (bi (0 ≤ v ∧ v ≤ 1)))) g r := by
  refine rt_of ?_
  show Ou 109 0 [vI v] [] g r _
  refine o_iload_n (n := 1) rfl rfl rfl ?_
  refine o_i2l (n := 2) rfl rfl ?_
  refine o_lconst (n := 3) rfl rfl ?_
  refine o_lconst (n := 4) rfl rfl ?_
  refine o_invsi (n := 7) rfl rfl rfl rfl rfl rfl (c8_in _ _ _) ?_
  refine o_zret rfl rfl (bi_01 _) ?_
  exact ⟨rfl, rfl, rfl⟩
end LEAF
