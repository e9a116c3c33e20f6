/-! the component judges; falling rules of both classes. Written by wip/gen/gen23.py -/
noncomputable def rk (ρ a : Int) : Int := cif (ρ = 1 ∧ a = -1) 2147483647 a
def bd (ρ a : Int) : Prop := (ρ = 0 → 0 ≤ a) ∧ (ρ ≠ 0 → -1 ≤ a ∧ a ≤ 99999)
theorem rk_lt {ρ a b : Int} (ha : bd ρ a) (hb : bd ρ b) : rk ρ a < rk ρ b ↔ ls8 ρ a b := by
  unfold rk ls8; unfold bd at ha hb
  by_cases c1 : ρ = 1 ∧ a = -1 <;> by_cases c2 : ρ = 1 ∧ b = -1
  · rw [cif_t c1, cif_t c2]; omega
  · rw [cif_t c1, cif_f c2]; omega
  · rw [cif_f c1, cif_t c2]; omega
  · rw [cif_f c1, cif_f c2]; omega
theorem rk_g {ρ a b : Int} (ha : bd ρ a) (hb : bd ρ b) (h : ¬ ls8 ρ a b) : (ls8 ρ b a ∨ (a = -1 ∧ b = -1)) ↔ ¬ (rk ρ a = rk ρ b ∧ a ≠ -1) := by
  unfold ls8 at h ⊢; unfold rk; unfold bd at ha hb
  by_cases c1 : ρ = 1 ∧ a = -1 <;> by_cases c2 : ρ = 1 ∧ b = -1
  · rw [cif_t c1, cif_t c2]; omega
  · rw [cif_t c1, cif_f c2]; omega
  · rw [cif_f c1, cif_t c2]; omega
  · rw [cif_f c1, cif_f c2]; omega
/-- all that the component's judging may change -/
def FJ (g r g' r' : GI) : Prop := (∀ k, k ≠ 6 → k ≠ 13 → g' k = g k) ∧ (∀ k, k ≠ 6 → r' k = r k) ∧ R6 r'
theorem FJ_tr {g r g1 r1 g2 r2 : GI} (a : FJ g r g1 r1) (b : FJ g1 r1 g2 r2) : FJ g r g2 r2 := ⟨fun k h1 h2 => (b.1 k h1 h2).trans (a.1 k h1 h2), fun k h1 => (b.2.1 k h1).trans (a.2.1 k h1), b.2.2⟩
theorem FJ_refl {g r : GI} (h : R6 r) : FJ g r g r := ⟨fun _ _ _ => rfl, fun _ _ => rfl, h⟩
theorem FJ_7 {v : Int} {g r g1 r1 : GI} (a : F7 v g r g1 r1) : FJ g r g1 r1 := ⟨a.k, a.rk, a.r6⟩
section FALL
variable {g r : GI} {ρ n : Int} {A B : Int → Int → Int} {E : Int → Int → Int → Int} {Q : Option AV → GI → GI → Prop} {R : Int} {L : Int → Int → Int} {W : Int → Int → Int → Int}
theorem c6_fallsBy0 (hS : am_St r) (hR : am_Rg r) {v u e : Int} (hv : 0 ≤ v) (hv1 : v < 2) (hu : 0 ≤ u) (hu1 : u < 2) (he : 0 ≤ e) (he1 : e < 10) (hr : 0 ≤ ρ ∧ ρ ≤ 2) (hn0 : 1 ≤ n) (hn1 : n ≤ 3) (hq : g 0 e 0 = ρ) (hn : g 0 e 1 = n) (hA : ∀ x y, 0 ≤ x → x < n → 0 ≤ y → y < n → g 13 (r 6 v 1) (x * 3 + y) = A x y) (hB : ∀ x y, 0 ≤ x → x < n → 0 ≤ y → y < n → g 13 (r 6 u 1) (x * 3 + y) = B x y) {fl : Int} (hf : fl = 0 ∨ fl = 1) : Ou 43 0 (am_ini 43 [vR 6 v, vR 6 u, vR 0 e, vI fl]) [] g r (Rq (some (vI (bi ((ρ = 0 ∧ B 0 (n - 1) < A 0 (n - 1)) ∨ (ρ ≠ 0 ∧ fl ≠ 0))))) g r) := by
  show Ou 43 0 [vR 6 v, vR 6 u, vR 0 e, vI fl, vN] [] g r _
  have hA0 := hA 0 (n - 1) (by omega) (by omega) (by omega) (by omega)
  have hB0 := hB 0 (n - 1) (by omega) (by omega) (by omega) (by omega)
  refine o_aload_n (n := 1) rfl rfl rfl ?_
  refine o_geti (n := 4) rfl rfl rfl (ok_0 (by omega) (by omega)) rfl ?_
  rw [hn]
  refine o_iconst (n := 5) rfl rfl ?_
  refine o_isub (n := 6) rfl rfl (by omega) ?_
  refine o_istore_4 (n := 8) rfl rfl rfl ?_
  refine o_aload_n (n := 9) rfl rfl rfl ?_
  refine o_geti (n := 12) rfl rfl rfl (ok_0 (by omega) (by omega)) rfl ?_
  refine o_if_ne (n := 15) (t := 40) rfl rfl rfl (fun h12 => ?_) (fun h12 => ?_)
  · refine o_iload_n (n := 41) rfl rfl rfl ?_
    refine o_zret rfl rfl (by omega) ?_
    refine ⟨?_, rfl, rfl⟩
    first
      | rw [bi_t (by omega)]
      | rw [bi_f (by omega)]
      | (rcases hf with hf | hf <;> subst hf <;> first | rw [bi_t (by omega)] | rw [bi_f (by omega)])
  · refine o_aload_n (n := 16) rfl rfl rfl ?_
    refine o_iconst (n := 17) rfl rfl ?_
    refine o_iload (n := 19) rfl rfl rfl ?_
    refine o_invi (n := 22) rfl rfl rfl rfl rfl rfl rfl rfl rfl (ok_6 (by omega) (by omega)) (c6_cellAt hR _ _ _ hv hv1 (by omega) (by omega) (by omega) (by omega)) ?_
    rw [hA0]
    refine o_aload_n (n := 23) rfl rfl rfl ?_
    refine o_iconst (n := 24) rfl rfl ?_
    refine o_iload (n := 26) rfl rfl rfl ?_
    refine o_invi (n := 29) rfl rfl rfl rfl rfl rfl rfl rfl rfl (ok_6 (by omega) (by omega)) (c6_cellAt hR _ _ _ hu hu1 (by omega) (by omega) (by omega) (by omega)) ?_
    rw [hB0]
    refine o_icmp_le (n := 32) (t := 36) rfl rfl rfl (fun h29 => ?_) (fun h29 => ?_)
    · refine o_iconst (n := 37) rfl rfl ?_
      refine o_goto (t := 41) rfl rfl ?_
      refine o_zret rfl rfl (by omega) ?_
      refine ⟨?_, rfl, rfl⟩
      first
        | rw [bi_t (by omega)]
        | rw [bi_f (by omega)]
        | (rcases hf with hf | hf <;> subst hf <;> first | rw [bi_t (by omega)] | rw [bi_f (by omega)])
    · refine o_iconst (n := 33) rfl rfl ?_
      refine o_goto (t := 41) rfl rfl ?_
      refine o_zret rfl rfl (by omega) ?_
      refine ⟨?_, rfl, rfl⟩
      first
        | rw [bi_t (by omega)]
        | rw [bi_f (by omega)]
        | (rcases hf with hf | hf <;> subst hf <;> first | rw [bi_t (by omega)] | rw [bi_f (by omega)])
theorem c6_fallsBy (hS : am_St r) (hR : am_Rg r) {v u e : Int} (hv : 0 ≤ v) (hv1 : v < 2) (hu : 0 ≤ u) (hu1 : u < 2) (he : 0 ≤ e) (he1 : e < 10) (hr : 0 ≤ ρ ∧ ρ ≤ 2) (hn0 : 1 ≤ n) (hn1 : n ≤ 3) (hq : g 0 e 0 = ρ) (hn : g 0 e 1 = n) (hA : ∀ x y, 0 ≤ x → x < n → 0 ≤ y → y < n → g 13 (r 6 v 1) (x * 3 + y) = A x y) (hB : ∀ x y, 0 ≤ x → x < n → 0 ≤ y → y < n → g 13 (r 6 u 1) (x * 3 + y) = B x y) {fl : Int} (hf : fl = 0 ∨ fl = 1) : Rt 43 [vR 6 v, vR 6 u, vR 0 e, vI fl] g r (some (vI (bi ((ρ = 0 ∧ B 0 (n - 1) < A 0 (n - 1)) ∨ (ρ ≠ 0 ∧ fl ≠ 0))))) g r := rt_of (c6_fallsBy0 hS hR hv hv1 hu hu1 he he1 hr hn0 hn1 hq hn hA hB hf)
theorem l6_agy (hS : am_St r) (hR : am_Rg r) {v u e : Int} (hv : 0 ≤ v) (hv1 : v < 2) (hu : 0 ≤ u) (hu1 : u < 2) (he : 0 ≤ e) (he1 : e < 10) (hr : 0 ≤ ρ ∧ ρ ≤ 2) (hn0 : 1 ≤ n) (hn1 : n ≤ 3) (hq : g 0 e 0 = ρ) (hn : g 0 e 1 = n) (hA : ∀ x y, 0 ≤ x → x < n → 0 ≤ y → y < n → g 13 (r 6 v 1) (x * 3 + y) = A x y) (hB : ∀ x y, 0 ≤ x → x < n → 0 ≤ y → y < n → g 13 (r 6 u 1) (x * 3 + y) = B x y) (hbA : ∀ x y, 0 ≤ x → x < n → 0 ≤ y → y < n → bd ρ (A x y)) (hbB : ∀ x y, 0 ≤ x → x < n → 0 ≤ y → y < n → bd ρ (B x y)) {x : Int} (hx : 0 ≤ x) (hx1 : x < n) : ∀ (m : Nat) (y fl : Int) (t6 t7 : AV), (0 ≤ y) → (y + m = n) → ((∀ a b, 0 ≤ a → a < n → 0 ≤ b → b < n → (a < x ∨ (a = x ∧ b < y)) → ¬ ls8 ρ (A a b) (B a b))) → (((fl = 1 ∧ ∀ a b, 0 ≤ a → a < n → 0 ≤ b → b < n → (a < x ∨ (a = x ∧ b < y)) → (ls8 ρ (B a b) (A a b) ∨ (A a b = -1 ∧ B a b = -1))) ∨ (fl = 0 ∧ ∃ a b, 0 ≤ a ∧ a < n ∧ 0 ≤ b ∧ b < n ∧ (a < x ∨ (a = x ∧ b < y)) ∧ ¬ (ls8 ρ (B a b) (A a b) ∨ (A a b = -1 ∧ B a b = -1))))) → (∀ fl t6 t7, (∀ a b, 0 ≤ a → a < n → 0 ≤ b → b < n → a < x + 1 → ¬ ls8 ρ (A a b) (B a b)) → ((fl = 1 ∧ ∀ a b, 0 ≤ a → a < n → 0 ≤ b → b < n → a < x + 1 → (ls8 ρ (B a b) (A a b) ∨ (A a b = -1 ∧ B a b = -1))) ∨ (fl = 0 ∧ ∃ a b, 0 ≤ a ∧ a < n ∧ 0 ≤ b ∧ b < n ∧ a < x + 1 ∧ ¬ (ls8 ρ (B a b) (A a b) ∨ (A a b = -1 ∧ B a b = -1)))) → Ou 42 90 [vR 6 v, vR 6 u, vR 0 e, vI fl, vI x, vI n, t6, t7] [] g r (Rq (some (vI (gd ρ n A B))) g r)) → Ou 42 17 [vR 6 v, vR 6 u, vR 0 e, vI fl, vI x, vI y, t6, t7] [] g r (Rq (some (vI (gd ρ n A B))) g r) := by
  intro m
  induction m with
  | zero =>
    intro y fl t6 t7 i0 i1 i2 i3 hQ
    have hk : y = n := by omega
    subst hk
    refine o_iload (n := 19) rfl rfl rfl ?_
    refine o_aload_n (n := 20) rfl rfl rfl ?_
    refine o_geti (n := 23) rfl rfl rfl (ok_0 (by omega) (by omega)) rfl ?_
    refine o_icmp_ge (n := 26) (t := 90) rfl rfl rfl (fun h23 => ?_) (fun h23 => (by exfalso; omega))
    refine hQ _ _ _ (fun a b a0 a1 b0 b1 c => i2 a b a0 a1 b0 b1 (by omega)) ?_
    rcases i3 with ⟨i3, i4⟩ | ⟨i3, a, b, a0, a1, b0, b1, c, z⟩
    · exact Or.inl ⟨i3, fun a b a0 a1 b0 b1 c => i4 a b a0 a1 b0 b1 (by omega)⟩
    · exact Or.inr ⟨i3, a, b, a0, a1, b0, b1, by omega, z⟩
  | succ m ih =>
    intro y fl t6 t7 i0 i1 i2 i3 hQ
    have hA0 := hA x y hx hx1 i0 (by omega)
    have hB0 := hB x y hx hx1 i0 (by omega)
    have hlt := rk_lt (hbA x y hx hx1 i0 (by omega)) (hbB x y hx hx1 i0 (by omega))
    have hg := rk_g (hbA x y hx hx1 i0 (by omega)) (hbB x y hx hx1 i0 (by omega))
    refine o_iload (n := 19) rfl rfl rfl ?_
    refine o_aload_n (n := 20) rfl rfl rfl ?_
    refine o_geti (n := 23) rfl rfl rfl (ok_0 (by omega) (by omega)) rfl ?_
    refine o_icmp_ge (n := 26) (t := 90) rfl rfl rfl (fun h23 => (by exfalso; omega)) (fun h23 => ?_)
    refine o_aload_n (n := 27) rfl rfl rfl ?_
    refine o_aload_n (n := 28) rfl rfl rfl ?_
    refine o_iload (n := 30) rfl rfl rfl ?_
    refine o_iload (n := 32) rfl rfl rfl ?_
    refine o_invi (n := 35) rfl rfl rfl rfl rfl rfl rfl rfl rfl (ok_6 (by omega) (by omega)) (c6_cellAt hR _ _ _ hv hv1 (by omega) (by omega) (by omega) (by omega)) ?_
    rw [hA0]
    have hk1 := c0_rank (g := g) (r := r) e (A x y) he he1
    rw [hq] at hk1
    refine o_invi (n := 38) rfl rfl rfl rfl rfl rfl rfl rfl rfl (ok_0 (by omega) (by omega)) (hk1) ?_
    change Ou _ _ _ (vI (rk ρ (A x y)) :: _) _ _ _
    refine o_istore_6 (n := 40) rfl rfl rfl ?_
    refine o_aload_n (n := 41) rfl rfl rfl ?_
    refine o_aload_n (n := 42) rfl rfl rfl ?_
    refine o_iload (n := 44) rfl rfl rfl ?_
    refine o_iload (n := 46) rfl rfl rfl ?_
    refine o_invi (n := 49) rfl rfl rfl rfl rfl rfl rfl rfl rfl (ok_6 (by omega) (by omega)) (c6_cellAt hR _ _ _ hu hu1 (by omega) (by omega) (by omega) (by omega)) ?_
    rw [hB0]
    have hk2 := c0_rank (g := g) (r := r) e (B x y) he he1
    rw [hq] at hk2
    refine o_invi (n := 52) rfl rfl rfl rfl rfl rfl rfl rfl rfl (ok_0 (by omega) (by omega)) (hk2) ?_
    change Ou _ _ _ (vI (rk ρ (B x y)) :: _) _ _ _
    refine o_istore_7 (n := 54) rfl rfl rfl ?_
    refine o_iload (n := 56) rfl rfl rfl ?_
    refine o_iload (n := 58) rfl rfl rfl ?_
    refine o_icmp_ge (n := 61) (t := 63) rfl rfl rfl (fun h58 => ?_) (fun h58 => ?_)
    · refine o_iload (n := 65) rfl rfl rfl ?_
      refine o_iload (n := 67) rfl rfl rfl ?_
      refine o_icmp_ne (n := 70) (t := 84) rfl rfl rfl (fun h67 => ?_) (fun h67 => ?_)
      · refine o_iinc_5 (n := 87) rfl rfl rfl (by omega) ?_
        refine o_goto (t := 17) rfl rfl ?_
        have hnl : ¬ ls8 ρ (A x y) (B x y) := fun z => by have := hlt.mpr z; omega
        refine ih (y + 1) _ _ _ (by omega) (by omega) (fun a b a0 a1 b0 b1 c => ?_) ?_ hQ
        · by_cases e : a = x ∧ b = y
          · rw [e.1, e.2]; exact hnl
          · exact i2 a b a0 a1 b0 b1 (by omega)
        · first
            | (have hbad : rk ρ (A x y) = rk ρ (B x y) ∧ A x y ≠ -1 := by omega
               exact Or.inr ⟨rfl, x, y, hx, hx1, i0, by omega, by omega, fun z => (hg hnl).mp z hbad⟩)
            | (have hok : ¬ (rk ρ (A x y) = rk ρ (B x y) ∧ A x y ≠ -1) := by omega
               rcases i3 with ⟨i3, i4⟩ | ⟨i3, a, b, a0, a1, b0, b1, c, z⟩
               · refine Or.inl ⟨i3, fun a b a0 a1 b0 b1 c => ?_⟩
                 by_cases e : a = x ∧ b = y
                 · rw [e.1, e.2]; exact (hg hnl).mpr hok
                 · exact i4 a b a0 a1 b0 b1 (by omega)
               · exact Or.inr ⟨i3, a, b, a0, a1, b0, b1, by omega, z⟩)
      · refine o_aload_n (n := 71) rfl rfl rfl ?_
        refine o_iload (n := 73) rfl rfl rfl ?_
        refine o_iload (n := 75) rfl rfl rfl ?_
        refine o_invi (n := 78) rfl rfl rfl rfl rfl rfl rfl rfl rfl (ok_6 (by omega) (by omega)) (c6_cellAt hR _ _ _ hv hv1 (by omega) (by omega) (by omega) (by omega)) ?_
        rw [hA0]
        refine o_iconst (n := 79) rfl rfl ?_
        refine o_icmp_eq (n := 82) (t := 84) rfl rfl rfl (fun h79 => ?_) (fun h79 => ?_)
        · refine o_iinc_5 (n := 87) rfl rfl rfl (by omega) ?_
          refine o_goto (t := 17) rfl rfl ?_
          have hnl : ¬ ls8 ρ (A x y) (B x y) := fun z => by have := hlt.mpr z; omega
          refine ih (y + 1) _ _ _ (by omega) (by omega) (fun a b a0 a1 b0 b1 c => ?_) ?_ hQ
          · by_cases e : a = x ∧ b = y
            · rw [e.1, e.2]; exact hnl
            · exact i2 a b a0 a1 b0 b1 (by omega)
          · first
              | (have hbad : rk ρ (A x y) = rk ρ (B x y) ∧ A x y ≠ -1 := by omega
                 exact Or.inr ⟨rfl, x, y, hx, hx1, i0, by omega, by omega, fun z => (hg hnl).mp z hbad⟩)
              | (have hok : ¬ (rk ρ (A x y) = rk ρ (B x y) ∧ A x y ≠ -1) := by omega
                 rcases i3 with ⟨i3, i4⟩ | ⟨i3, a, b, a0, a1, b0, b1, c, z⟩
                 · refine Or.inl ⟨i3, fun a b a0 a1 b0 b1 c => ?_⟩
                   by_cases e : a = x ∧ b = y
                   · rw [e.1, e.2]; exact (hg hnl).mpr hok
                   · exact i4 a b a0 a1 b0 b1 (by omega)
                 · exact Or.inr ⟨i3, a, b, a0, a1, b0, b1, by omega, z⟩)
        · refine o_iconst (n := 83) rfl rfl ?_
          refine o_istore_3 (n := 84) rfl rfl rfl ?_
          refine o_iinc_5 (n := 87) rfl rfl rfl (by omega) ?_
          refine o_goto (t := 17) rfl rfl ?_
          have hnl : ¬ ls8 ρ (A x y) (B x y) := fun z => by have := hlt.mpr z; omega
          refine ih (y + 1) _ _ _ (by omega) (by omega) (fun a b a0 a1 b0 b1 c => ?_) ?_ hQ
          · by_cases e : a = x ∧ b = y
            · rw [e.1, e.2]; exact hnl
            · exact i2 a b a0 a1 b0 b1 (by omega)
          · first
              | (have hbad : rk ρ (A x y) = rk ρ (B x y) ∧ A x y ≠ -1 := by omega
                 exact Or.inr ⟨rfl, x, y, hx, hx1, i0, by omega, by omega, fun z => (hg hnl).mp z hbad⟩)
              | (have hok : ¬ (rk ρ (A x y) = rk ρ (B x y) ∧ A x y ≠ -1) := by omega
                 rcases i3 with ⟨i3, i4⟩ | ⟨i3, a, b, a0, a1, b0, b1, c, z⟩
                 · refine Or.inl ⟨i3, fun a b a0 a1 b0 b1 c => ?_⟩
                   by_cases e : a = x ∧ b = y
                   · rw [e.1, e.2]; exact (hg hnl).mpr hok
                   · exact i4 a b a0 a1 b0 b1 (by omega)
                 · exact Or.inr ⟨i3, a, b, a0, a1, b0, b1, by omega, z⟩)
    · refine o_iconst (n := 62) rfl rfl ?_
      refine o_iret rfl rfl ?_
      refine ⟨?_, rfl, rfl⟩
      unfold gd
      rw [cif_t ⟨x, y, hx, hx1, i0, by omega, hlt.mp (by omega)⟩]
theorem l6_agx (hS : am_St r) (hR : am_Rg r) {v u e : Int} (hv : 0 ≤ v) (hv1 : v < 2) (hu : 0 ≤ u) (hu1 : u < 2) (he : 0 ≤ e) (he1 : e < 10) (hr : 0 ≤ ρ ∧ ρ ≤ 2) (hn0 : 1 ≤ n) (hn1 : n ≤ 3) (hq : g 0 e 0 = ρ) (hn : g 0 e 1 = n) (hA : ∀ x y, 0 ≤ x → x < n → 0 ≤ y → y < n → g 13 (r 6 v 1) (x * 3 + y) = A x y) (hB : ∀ x y, 0 ≤ x → x < n → 0 ≤ y → y < n → g 13 (r 6 u 1) (x * 3 + y) = B x y) (hbA : ∀ x y, 0 ≤ x → x < n → 0 ≤ y → y < n → bd ρ (A x y)) (hbB : ∀ x y, 0 ≤ x → x < n → 0 ≤ y → y < n → bd ρ (B x y)) : ∀ (m : Nat) (x fl : Int) (t5 t6 t7 : AV), (0 ≤ x) → (x + m = n) → ((∀ a b, 0 ≤ a → a < n → 0 ≤ b → b < n → a < x → ¬ ls8 ρ (A a b) (B a b))) → (((fl = 1 ∧ ∀ a b, 0 ≤ a → a < n → 0 ≤ b → b < n → a < x → (ls8 ρ (B a b) (A a b) ∨ (A a b = -1 ∧ B a b = -1))) ∨ (fl = 0 ∧ ∃ a b, 0 ≤ a ∧ a < n ∧ 0 ≤ b ∧ b < n ∧ a < x ∧ ¬ (ls8 ρ (B a b) (A a b) ∨ (A a b = -1 ∧ B a b = -1))))) → Ou 42 5 [vR 6 v, vR 6 u, vR 0 e, vI fl, vI x, t5, t6, t7] [] g r (Rq (some (vI (gd ρ n A B))) g r) := by
  intro m
  induction m with
  | zero =>
    intro x fl t5 t6 t7 i0 i1 i2 i3
    have hf : fl = 0 ∨ fl = 1 := by omega
    refine o_iload (n := 7) rfl rfl rfl ?_
    refine o_aload_n (n := 8) rfl rfl rfl ?_
    refine o_geti (n := 11) rfl rfl rfl (ok_0 (by omega) (by omega)) rfl ?_
    refine o_icmp_ge (n := 14) (t := 96) rfl rfl rfl (fun h11 => ?_) (fun h11 => (by exfalso; omega))
    refine o_aload_n (n := 97) rfl rfl rfl ?_
    refine o_aload_n (n := 98) rfl rfl rfl ?_
    refine o_aload_n (n := 99) rfl rfl rfl ?_
    refine o_iload_n (n := 100) rfl rfl rfl ?_
    refine o_invi (n := 103) rfl rfl rfl rfl rfl rfl rfl rfl rfl (ok_6 (by omega) (by omega)) (c6_fallsBy hS hR hv hv1 hu hu1 he he1 hr hn0 hn1 hq hn hA hB hf) ?_
    refine o_ifb_eq (n := 106) (t := 110) rfl rfl rfl (fun h103 => ?_) (fun h103 => ?_)
    · refine o_iconst (n := 111) rfl rfl ?_
      refine o_iret rfl rfl ?_
      first
        | (exfalso; omega; done)
        | (have hz := h103
           refine ⟨?_, rfl, rfl⟩
           unfold gd
           have hno : ¬ ∃ x y, 0 ≤ x ∧ x < n ∧ 0 ≤ y ∧ y < n ∧ ls8 ρ (A x y) (B x y) := fun ⟨a, b, a0, a1, b0, b1, z⟩ => i2 a b a0 a1 b0 b1 (by omega) z
           rw [cif_f hno]
           have he : ((ρ = 0 ∧ B 0 (n - 1) < A 0 (n - 1)) ∨ (ρ ≠ 0 ∧ fl ≠ 0)) ↔ ((ρ = 0 ∧ B 0 (n - 1) < A 0 (n - 1)) ∨ (ρ ≠ 0 ∧ ∀ x y, 0 ≤ x → x < n → 0 ≤ y → y < n → ls8 ρ (B x y) (A x y) ∨ (A x y = -1 ∧ B x y = -1))) := by
             rcases i3 with ⟨i3, i4⟩ | ⟨i3, a, b, a0, a1, b0, b1, c, z⟩
             · refine or_congr Iff.rfl (and_congr Iff.rfl ⟨fun _ a b a0 a1 b0 b1 => i4 a b a0 a1 b0 b1 (by omega), fun _ => by omega⟩)
             · refine or_congr Iff.rfl (and_congr Iff.rfl ⟨fun q => absurd i3 q, fun q => absurd (q a b a0 a1 b0 b1) z⟩)
           first
             | rw [cif_t (he.mp hz)]
             | rw [cif_f (fun y => hz (he.mpr y))])
    · refine o_iconst (n := 107) rfl rfl ?_
      refine o_goto (t := 111) rfl rfl ?_
      refine o_iret rfl rfl ?_
      first
        | (exfalso; omega; done)
        | (have hz := h103
           refine ⟨?_, rfl, rfl⟩
           unfold gd
           have hno : ¬ ∃ x y, 0 ≤ x ∧ x < n ∧ 0 ≤ y ∧ y < n ∧ ls8 ρ (A x y) (B x y) := fun ⟨a, b, a0, a1, b0, b1, z⟩ => i2 a b a0 a1 b0 b1 (by omega) z
           rw [cif_f hno]
           have he : ((ρ = 0 ∧ B 0 (n - 1) < A 0 (n - 1)) ∨ (ρ ≠ 0 ∧ fl ≠ 0)) ↔ ((ρ = 0 ∧ B 0 (n - 1) < A 0 (n - 1)) ∨ (ρ ≠ 0 ∧ ∀ x y, 0 ≤ x → x < n → 0 ≤ y → y < n → ls8 ρ (B x y) (A x y) ∨ (A x y = -1 ∧ B x y = -1))) := by
             rcases i3 with ⟨i3, i4⟩ | ⟨i3, a, b, a0, a1, b0, b1, c, z⟩
             · refine or_congr Iff.rfl (and_congr Iff.rfl ⟨fun _ a b a0 a1 b0 b1 => i4 a b a0 a1 b0 b1 (by omega), fun _ => by omega⟩)
             · refine or_congr Iff.rfl (and_congr Iff.rfl ⟨fun q => absurd i3 q, fun q => absurd (q a b a0 a1 b0 b1) z⟩)
           first
             | rw [cif_t (he.mp hz)]
             | rw [cif_f (fun y => hz (he.mpr y))])
  | succ m ih =>
    intro x fl t5 t6 t7 i0 i1 i2 i3
    refine o_iload (n := 7) rfl rfl rfl ?_
    refine o_aload_n (n := 8) rfl rfl rfl ?_
    refine o_geti (n := 11) rfl rfl rfl (ok_0 (by omega) (by omega)) rfl ?_
    refine o_icmp_ge (n := 14) (t := 96) rfl rfl rfl (fun h11 => (by exfalso; omega)) (fun h11 => ?_)
    refine o_iconst (n := 15) rfl rfl ?_
    refine o_istore_5 (n := 17) rfl rfl rfl ?_
    refine l6_agy hS hR hv hv1 hu hu1 he he1 hr hn0 hn1 hq hn hA hB hbA hbB i0 (by omega) n.toNat 0 fl _ _ (by omega) (by omega) (fun a b a0 a1 b0 b1 c => i2 a b a0 a1 b0 b1 (by omega)) ?_ (fun fl t6 t7 j2 j3 => ?_)
    · rcases i3 with ⟨i3, i4⟩ | ⟨i3, a, b, a0, a1, b0, b1, c, z⟩
      · exact Or.inl ⟨i3, fun a b a0 a1 b0 b1 c => i4 a b a0 a1 b0 b1 (by omega)⟩
      · exact Or.inr ⟨i3, a, b, a0, a1, b0, b1, by omega, z⟩
    refine o_iinc_4 (n := 93) rfl rfl rfl (by omega) ?_
    refine o_goto (t := 5) rfl rfl ?_
    exact ih (x + 1) _ _ _ _ (by omega) (by omega) j2 j3
theorem c6_against (hS : am_St r) (hR : am_Rg r) {v u e : Int} (hv : 0 ≤ v) (hv1 : v < 2) (hu : 0 ≤ u) (hu1 : u < 2) (he : 0 ≤ e) (he1 : e < 10) (hr : 0 ≤ ρ ∧ ρ ≤ 2) (hn0 : 1 ≤ n) (hn1 : n ≤ 3) (hq : g 0 e 0 = ρ) (hn : g 0 e 1 = n) (hA : ∀ x y, 0 ≤ x → x < n → 0 ≤ y → y < n → g 13 (r 6 v 1) (x * 3 + y) = A x y) (hB : ∀ x y, 0 ≤ x → x < n → 0 ≤ y → y < n → g 13 (r 6 u 1) (x * 3 + y) = B x y) (hbA : ∀ x y, 0 ≤ x → x < n → 0 ≤ y → y < n → bd ρ (A x y)) (hbB : ∀ x y, 0 ≤ x → x < n → 0 ≤ y → y < n → bd ρ (B x y)) : Rt 42 [vR 6 v, vR 6 u, vR 0 e] g r (some (vI (gd ρ n A B))) g r := by
  refine rt_of ?_
  show Ou 42 0 [vR 6 v, vR 6 u, vR 0 e, vN, vN, vN, vN, vN] [] g r _
  refine o_iconst (n := 1) rfl rfl ?_
  refine o_istore_3 (n := 2) rfl rfl rfl ?_
  refine o_iconst (n := 3) rfl rfl ?_
  refine o_istore_4 (n := 5) rfl rfl rfl ?_
  exact l6_agx hS hR hv hv1 hu hu1 he he1 hr hn0 hn1 hq hn hA hB hbA hbB n.toNat 0 1 _ _ _ (by omega) (by omega) (fun a b a0 a1 b0 b1 c => by omega) (Or.inl ⟨rfl, fun a b a0 a1 b0 b1 c => by omega⟩)
theorem Vw7_k {g g' : GI} {q len : Int} {w : Int → Int} (h1 : g' 1 = g 1) (h10 : g' 10 = g 10) (h : Vw7 g q len w) : Vw7 g' q len w := by
  unfold Vw7; rw [h1, h10]; exact h
theorem Bm_bd {A : Int → Int → Int} (h : Bm ρ n A) : ∀ x y, 0 ≤ x → x < n → 0 ≤ y → y < n → bd ρ (A x y) := h
theorem c7_judge (hS : am_St r) (hR : am_Rg r) (h6 : R6 r) {e j : Int} (he : 0 ≤ e) (he1 : e < 10) (hj : 0 ≤ j) (hj1 : j < 8) (hb : Br ρ n E) (hV : Vr7 g e ρ n E) {w w' : Int → Int} {l l' : Int} (hw : Bw l w) (hw' : Bw l' w') (hl : l ≤ 6) (hl' : l' ≤ 6) (hW : Vw7 g (1 + 2 * j) l w) (hW' : Vw7 g (2 + 2 * j) l' w') : Ou 101 0 (am_ini 101 [vR 7 0, vR 2 j, vR 0 e]) [] g r (fun v g1 r1 => v = some (vI (grd ρ n E w l w' l')) ∧ FJ g r g1 r1) := by
  show Ou 101 0 [vR 7 0, vR 2 j, vR 0 e] [] g r _
  refine o_aload_n (n := 1) rfl rfl rfl ?_
  refine of_7_7 (n := 4) hS rfl rfl ?_
  refine o_aload_n (n := 5) rfl rfl rfl ?_
  refine of_2_0 (n := 8) hS rfl rfl (by omega) (by omega) ?_
  refine o_aload_n (n := 9) rfl rfl rfl ?_
  obtain ⟨v1, g1, r1, hc1, hv1, f1, hh1⟩ := rt_ex (c6_reckon (w := w) (E := E) hS hR h6 (v := 0) (by omega) (by omega) he he1 hb hV (q := 1 + 2 * j) (by omega) (by omega) hw hW (by rw [al10 (by omega)]; exact hl))
  subst hv1
  have hS := St_F hS f1.rk
  have hR := Rg_F hR f1.rk f1.r6
  have hV1 := Vr7_k (f1.k 0 (by decide) (by decide)) (f1.k 9 (by decide) (by decide)) hV
  refine o_invv (n := 12) rfl rfl rfl rfl rfl rfl rfl rfl rfl (ok_6 (by omega) (by omega)) (hc1) ?_
  refine o_aload_n (n := 13) rfl rfl rfl ?_
  refine of_7_7 (n := 16) hS rfl rfl ?_
  refine o_geti (n := 19) rfl rfl rfl (ok_6 (by omega) (by omega)) rfl ?_
  refine o_if_eq (n := 22) (t := 24) rfl rfl rfl (fun h19 => ?_) (fun h19 => ?_)
  · refine o_aload_n (n := 25) rfl rfl rfl ?_
    refine of_7_8 (n := 28) hS rfl rfl ?_
    refine o_aload_n (n := 29) rfl rfl rfl ?_
    refine of_2_1 (n := 32) hS rfl rfl (by omega) (by omega) ?_
    refine o_aload_n (n := 33) rfl rfl rfl ?_
    have hm1 : ¬ vo ρ n E w l.toNat ∧ ∀ x y, 0 ≤ x → x < n → 0 ≤ y → y < n → g1 13 (r1 6 0 1) (x * 3 + y) = mt ρ n E w l.toNat x y := by
      rcases hh1 with ⟨a, b⟩ | ⟨a, b, c⟩
      · exfalso; omega
      · exact ⟨a, c⟩
    obtain ⟨v2, g2, r2, hc2, hv2, f2, hh2⟩ := rt_ex (c6_reckon (w := w') (E := E) hS hR f1.r6 (v := 1) (by omega) (by omega) he he1 hb hV1 (q := 2 + 2 * j) (by omega) (by omega) hw' (Vw7_k (f1.k 1 (by decide) (by decide)) (f1.k 10 (by decide) (by decide)) hW') (by rw [al10 (by omega)]; exact hl'))
    subst hv2
    have hS := St_F hS f2.rk
    have hR := Rg_F hR f2.rk f2.r6
    have hV2 := Vr7_k (f2.k 0 (by decide) (by decide)) (f2.k 9 (by decide) (by decide)) hV1
    have f3 := FJ_tr (FJ_7 f1) (FJ_7 f2)
    refine o_invv (n := 36) rfl rfl rfl rfl rfl rfl rfl rfl rfl (ok_6 (by omega) (by omega)) (hc2) ?_
    refine o_aload_n (n := 37) rfl rfl rfl ?_
    refine of_7_8 (n := 40) hS rfl rfl ?_
    refine o_geti (n := 43) rfl rfl rfl (ok_6 (by omega) (by omega)) rfl ?_
    refine o_if_eq (n := 46) (t := 48) rfl rfl rfl (fun h43 => ?_) (fun h43 => ?_)
    · refine o_aload_n (n := 49) rfl rfl rfl ?_
      refine of_7_7 (n := 52) hS rfl rfl ?_
      refine o_aload_n (n := 53) rfl rfl rfl ?_
      refine of_7_8 (n := 56) hS rfl rfl ?_
      refine o_aload_n (n := 57) rfl rfl rfl ?_
      have hm2 : ¬ vo ρ n E w' l'.toNat ∧ ∀ x y, 0 ≤ x → x < n → 0 ≤ y → y < n → g2 13 (r2 6 1 1) (x * 3 + y) = mt ρ n E w' l'.toNat x y := by
        rcases hh2 with ⟨a, b⟩ | ⟨a, b, c⟩
        · exfalso; omega
        · exact ⟨a, c⟩
      have h60 := f1.r6 0 (by decide) (by decide)
      have hA : ∀ x y, 0 ≤ x → x < n → 0 ≤ y → y < n → g2 13 (r2 6 0 1) (x * 3 + y) = mt ρ n E w l.toNat x y := fun x y a b c d => by
        rw [f2.ro 0 1 (by decide), f2.c _ _ (by omega) (by omega)]; exact hm1.2 x y a b c d
      refine o_invi (n := 60) rfl rfl rfl rfl rfl rfl rfl rfl rfl (ok_6 (by omega) (by omega)) (c6_against hS hR (v := 0) (u := 1) (by omega) (by omega) (by omega) (by omega) he he1 hb.1 hb.2.1.1 hb.2.1.2 hV2.1 hV2.2.1 hA hm2.2 (Bm_bd (mt_Bm hb hw hm1.1)) (Bm_bd (mt_Bm hb hw' hm2.1))) ?_
      refine o_iret rfl rfl ?_
      first | (exfalso; omega; done) | exact ⟨by unfold grd; rw [cif_f hm1.1, cif_f hm2.1], f3⟩
    · refine o_iconst (n := 47) rfl rfl ?_
      refine o_iret rfl rfl ?_
      rcases hh2 with ⟨a, b⟩ | ⟨a, b, c⟩
      · refine ⟨?_, f3⟩
        unfold grd
        rw [cif_t a]
        by_cases c : vo ρ n E w l.toNat
        · rw [cif_t c]
        · rw [cif_f c]
      · exfalso; omega
  · refine o_iconst (n := 23) rfl rfl ?_
    refine o_iret rfl rfl ?_
    rcases hh1 with ⟨a, b⟩ | ⟨a, b, c⟩
    · exact ⟨by unfold grd; rw [cif_t a], FJ_7 f1⟩
    · exfalso; omega
def sd (ρ n : Int) (E : Int → Int → Int → Int) (m : Int) : Prop := ∀ s, 0 ≤ s → s < m → (ρ = 0 → 0 < E s 0 0 ∧ 0 < E s (n - 1) (n - 1)) ∧ (ρ ≠ 0 → E s 0 0 ≠ -1)
theorem l0_isSound (hS : am_St r) {e m : Int} (he : 0 ≤ e) (he1 : e < 10) (hm : 0 ≤ m) (hm1 : m ≤ 4) (hb : Br ρ n E) (hV : Vr7 g e ρ n E) : ∀ (k : Nat) (s lo : Int), (0 ≤ s) → (s + k = m) → (lo = cif (ρ = 0) 1 0) → (∀ t, 0 ≤ t → t < s → (ρ = 0 → 0 < E t 0 0 ∧ 0 < E t (n - 1) (n - 1)) ∧ (ρ ≠ 0 → E t 0 0 ≠ -1)) → Ou 5 15 [vR 0 e, vI m, vI lo, vI s] [] g r (Rq (some (vI (bi (sd ρ n E m)))) g r) := by
  intro k
  induction k with
  | zero =>
    intro s lo i0 i1 i2 i3
    obtain ⟨hρ, ⟨hn0, hn1⟩, hE⟩ := hb
    have e0 := hV.1
    have e1 := hV.2.1
    refine o_iload_n (n := 16) rfl rfl rfl ?_
    refine o_iload_n (n := 17) rfl rfl rfl ?_
    refine o_icmp_ge (n := 20) (t := 69) rfl rfl rfl (fun h17 => ?_) (fun h17 => (by exfalso; omega))
    refine o_iconst (n := 70) rfl rfl ?_
    refine o_zret rfl rfl (by omega) ?_
    first | (exfalso; omega; done) | exact ⟨by rw [bi_t (show sd ρ n E m from fun t a b => i3 t a (by omega))], rfl, rfl⟩
  | succ k ih =>
    intro s lo i0 i1 i2 i3
    obtain ⟨hρ, ⟨hn0, hn1⟩, hE⟩ := hb
    have e0 := hV.1
    have e1 := hV.2.1
    have ea := hV.2.2 s 0 0 i0 (by omega) (by omega) (by omega) (by omega) (by omega)
    rw [show s * 9 + 0 + 0 * 3 = s * 9 + 0 * 3 + 0 by omega] at ea
    have eb := hV.2.2 s (n - 1) (n - 1) i0 (by omega) (by omega) (by omega) (by omega) (by omega)
    rw [show s * 9 + (n - 1) + (n - 1) * 3 = s * 9 + (n - 1) * 3 + (n - 1) by omega] at eb
    have ba := hE s 0 0 i0 (by omega) (by omega) (by omega) (by omega) (by omega)
    refine o_iload_n (n := 16) rfl rfl rfl ?_
    refine o_iload_n (n := 17) rfl rfl rfl ?_
    refine o_icmp_ge (n := 20) (t := 69) rfl rfl rfl (fun h17 => (by exfalso; omega)) (fun h17 => ?_)
    refine o_aload_n (n := 21) rfl rfl rfl ?_
    refine o_iload_n (n := 22) rfl rfl rfl ?_
    refine o_iconst (n := 23) rfl rfl ?_
    refine o_iconst (n := 24) rfl rfl ?_
    refine o_invi (n := 27) rfl rfl rfl rfl rfl rfl rfl rfl rfl (ok_0 (by omega) (by omega)) (c0_entryAt hS _ _ _ _ he he1 i0 (by omega) (by omega) (by omega) (by omega) (by omega)) ?_
    rw [ea]
    refine o_iload_n (n := 28) rfl rfl rfl ?_
    refine o_icmp_ge (n := 31) (t := 33) rfl rfl rfl (fun h28 => ?_) (fun h28 => ?_)
    · refine o_aload_n (n := 34) rfl rfl rfl ?_
      refine o_geti (n := 37) rfl rfl rfl (ok_0 (by omega) (by omega)) rfl ?_
      refine o_if_ne (n := 40) (t := 63) rfl rfl rfl (fun h37 => ?_) (fun h37 => ?_)
      · refine o_iinc_3 (n := 66) rfl rfl rfl (by omega) ?_
        refine o_goto (t := 15) rfl rfl ?_
        refine ih (s + 1) lo (by omega) (by omega) i2 (fun t a b => ?_)
        by_cases c : t = s
        · subst c
          by_cases hc : ρ = 0
          · rw [cif_t hc] at i2; exact ⟨fun _ => by omega, fun z => absurd hc z⟩
          · rw [cif_f hc] at i2; exact ⟨fun z => absurd z hc, fun _ => by omega⟩
        · exact i3 t a (by omega)
      · refine o_aload_n (n := 41) rfl rfl rfl ?_
        refine o_iload_n (n := 42) rfl rfl rfl ?_
        refine o_aload_n (n := 43) rfl rfl rfl ?_
        refine o_geti (n := 46) rfl rfl rfl (ok_0 (by omega) (by omega)) rfl ?_
        refine o_iconst (n := 47) rfl rfl ?_
        refine o_isub (n := 48) rfl rfl (by omega) ?_
        refine o_aload_n (n := 49) rfl rfl rfl ?_
        refine o_geti (n := 52) rfl rfl rfl (ok_0 (by omega) (by omega)) rfl ?_
        refine o_iconst (n := 53) rfl rfl ?_
        refine o_isub (n := 54) rfl rfl (by omega) ?_
        rw [e1]
        refine o_invi (n := 57) rfl rfl rfl rfl rfl rfl rfl rfl rfl (ok_0 (by omega) (by omega)) (c0_entryAt hS _ _ _ _ he he1 i0 (by omega) (by omega) (by omega) (by omega) (by omega)) ?_
        rw [eb]
        refine o_iload_n (n := 58) rfl rfl rfl ?_
        refine o_icmp_ge (n := 61) (t := 63) rfl rfl rfl (fun h58 => ?_) (fun h58 => ?_)
        · refine o_iinc_3 (n := 66) rfl rfl rfl (by omega) ?_
          refine o_goto (t := 15) rfl rfl ?_
          refine ih (s + 1) lo (by omega) (by omega) i2 (fun t a b => ?_)
          by_cases c : t = s
          · subst c
            by_cases hc : ρ = 0
            · rw [cif_t hc] at i2; exact ⟨fun _ => by omega, fun z => absurd hc z⟩
            · rw [cif_f hc] at i2; exact ⟨fun z => absurd z hc, fun _ => by omega⟩
          · exact i3 t a (by omega)
        · refine o_iconst (n := 62) rfl rfl ?_
          refine o_zret rfl rfl (by omega) ?_
          refine ⟨?_, rfl, rfl⟩
          have hns : ¬ sd ρ n E m := fun z => by
            have hz := z s i0 (by omega)
            by_cases hc : ρ = 0
            · rw [cif_t hc] at i2; have := hz.1 hc; omega
            · rw [cif_f hc] at i2; have := hz.2 hc; omega
          rw [bi_f hns]
    · refine o_iconst (n := 32) rfl rfl ?_
      refine o_zret rfl rfl (by omega) ?_
      refine ⟨?_, rfl, rfl⟩
      have hns : ¬ sd ρ n E m := fun z => by
        have hz := z s i0 (by omega)
        by_cases hc : ρ = 0
        · rw [cif_t hc] at i2; have := hz.1 hc; omega
        · rw [cif_f hc] at i2; have := hz.2 hc; omega
      rw [bi_f hns]
theorem c0_isSound (hS : am_St r) {e m : Int} (he : 0 ≤ e) (he1 : e < 10) (hm : 0 ≤ m) (hm1 : m ≤ 4) (hb : Br ρ n E) (hV : Vr7 g e ρ n E) : Rt 5 [vR 0 e, vI m] g r (some (vI (bi (sd ρ n E m)))) g r := by
  refine rt_of ?_
  show Ou 5 0 [vR 0 e, vI m, vN, vN] [] g r _
  have e0 := hV.1
  refine o_aload_n (n := 1) rfl rfl rfl ?_
  refine o_geti (n := 4) rfl rfl rfl (ok_0 (by omega) (by omega)) rfl ?_
  refine o_if_ne (n := 7) (t := 11) rfl rfl rfl (fun h4 => ?_) (fun h4 => ?_)
  · refine o_iconst (n := 12) rfl rfl ?_
    refine o_istore_2 (n := 13) rfl rfl rfl ?_
    refine o_iconst (n := 14) rfl rfl ?_
    refine o_istore_3 (n := 15) rfl rfl rfl ?_
    exact l0_isSound hS he he1 hm hm1 hb hV m.toNat 0 _ (by omega) (by omega) (by first | rw [cif_t (by omega)] | rw [cif_f (by omega)]) (fun t a b => by omega)
  · refine o_iconst (n := 8) rfl rfl ?_
    refine o_goto (t := 12) rfl rfl ?_
    refine o_istore_2 (n := 13) rfl rfl rfl ?_
    refine o_iconst (n := 14) rfl rfl ?_
    refine o_istore_3 (n := 15) rfl rfl rfl ?_
    exact l0_isSound hS he he1 hm hm1 hb hV m.toNat 0 _ (by omega) (by omega) (by first | rw [cif_t (by omega)] | rw [cif_f (by omega)]) (fun t a b => by omega)
theorem l8_isSound (hS : am_St r) {d m : Int} (hd : 0 ≤ d) (hd1 : d < 9) (hm : 0 ≤ m) (hm1 : m ≤ 4) (hg : g 8 0 5 = m) (hb : Br ρ n E) (hV : Vr8 g d ρ n E) : ∀ (k : Nat) (s : Int) (t4 t5 : AV), (0 ≤ s) → (s + k = m) → (∀ t, 0 ≤ t → t < s → (ρ = 0 → 0 < E t 0 0 ∧ 0 < E t (n - 1) (n - 1)) ∧ (ρ ≠ 0 → E t 0 0 ≠ -1)) → Ou 140 13 [vR 8 0, vI d, vI (4 * (n - 1)), vI s, t4, t5] [] g r (Rq (some (vI (bi (sd ρ n E m)))) g r) := by
  intro k
  induction k with
  | zero =>
    intro s t4 t5 i0 i1 i3
    obtain ⟨hρ, ⟨hn0, hn1⟩, hE⟩ := hb
    have e0 := hV.1
    have e1 := hV.2.1
    refine o_iload_n (n := 14) rfl rfl rfl ?_
    refine o_aload_n (n := 15) rfl rfl rfl ?_
    refine o_geti (n := 18) rfl rfl rfl rfl rfl ?_
    refine o_icmp_ge (n := 21) (t := 102) rfl rfl rfl (fun h18 => ?_) (fun h18 => (by exfalso; omega))
    refine o_iconst (n := 103) rfl rfl ?_
    refine o_zret rfl rfl (by omega) ?_
    first | (exfalso; omega; done) | exact ⟨by rw [bi_t (show sd ρ n E m from fun t a b => i3 t a (by omega))], rfl, rfl⟩
  | succ k ih =>
    intro s t4 t5 i0 i1 i3
    obtain ⟨hρ, ⟨hn0, hn1⟩, hE⟩ := hb
    have e0 := hV.1
    have e1 := hV.2.1
    have ea := hV.2.2 s 0 0 i0 (by omega) (by omega) (by omega) (by omega) (by omega)
    rw [show 36 * d + 9 * s + 3 * 0 + 0 = 36 * d + 9 * s by omega] at ea
    have eb := hV.2.2 s (n - 1) (n - 1) i0 (by omega) (by omega) (by omega) (by omega) (by omega)
    rw [show 36 * d + 9 * s + 3 * (n - 1) + (n - 1) = 36 * d + 9 * s + 4 * (n - 1) by omega] at eb
    have ba := hE s 0 0 i0 (by omega) (by omega) (by omega) (by omega) (by omega)
    refine o_iload_n (n := 14) rfl rfl rfl ?_
    refine o_aload_n (n := 15) rfl rfl rfl ?_
    refine o_geti (n := 18) rfl rfl rfl rfl rfl ?_
    refine o_icmp_ge (n := 21) (t := 102) rfl rfl rfl (fun h18 => (by exfalso; omega)) (fun h18 => ?_)
    refine o_bipush (n := 23) rfl rfl ?_
    refine o_iload_n (n := 24) rfl rfl rfl ?_
    refine o_imul (n := 25) rfl rfl (by omega) ?_
    refine o_bipush (n := 27) rfl rfl ?_
    refine o_iload_n (n := 28) rfl rfl rfl ?_
    refine o_imul (n := 29) rfl rfl (by omega) ?_
    refine o_iadd (n := 30) rfl rfl (by omega) ?_
    refine o_istore_4 (n := 32) rfl rfl rfl ?_
    refine o_aload_n (n := 33) rfl rfl rfl ?_
    refine of_8_17 (n := 36) hS rfl rfl ?_
    refine o_iload_n (n := 37) rfl rfl rfl ?_
    refine o_iald (n := 38) (L := 9) rfl rfl rfl rfl rfl (by omega) (by omega) ?_
    refine o_if_ne (n := 41) (t := 71) rfl rfl rfl (fun h38 => ?_) (fun h38 => ?_)
    · refine o_aload_n (n := 72) rfl rfl rfl ?_
      refine of_8_16 (n := 75) hS rfl rfl ?_
      refine o_iload (n := 77) rfl rfl rfl ?_
      refine o_iald (n := 78) (L := 324) rfl rfl rfl rfl rfl (by omega) (by omega) ?_
      refine o_iconst (n := 79) rfl rfl ?_
      refine o_icmp_eq (n := 82) (t := 86) rfl rfl rfl (fun h79 => ?_) (fun h79 => ?_)
      · refine o_iconst (n := 87) rfl rfl ?_
        refine o_istore_5 (n := 89) rfl rfl rfl ?_
        refine o_iload (n := 91) rfl rfl rfl ?_
        refine o_if_ne (n := 94) (t := 96) rfl rfl rfl (fun h91 => ?_) (fun h91 => ?_)
        · refine o_iinc_3 (n := 99) rfl rfl rfl (by omega) ?_
          refine o_goto (t := 13) rfl rfl ?_
          first
            | (exfalso; omega; done)
            | (refine ih (s + 1) _ _ (by omega) (by omega) (fun t a b => ?_)
               by_cases c : t = s
               · subst c
                 by_cases hc : ρ = 0
                 · exact ⟨fun _ => by omega, fun z => absurd hc z⟩
                 · exact ⟨fun z => absurd z hc, fun _ => by omega⟩
               · exact i3 t a (by omega))
        · refine o_iconst (n := 95) rfl rfl ?_
          refine o_zret rfl rfl (by omega) ?_
          first
            | (exfalso; omega; done)
            | (refine ⟨?_, rfl, rfl⟩
               have hns : ¬ sd ρ n E m := fun z => by
                 have hz := z s i0 (by omega)
                 by_cases hc : ρ = 0
                 · have := hz.1 hc; omega
                 · have := hz.2 hc; omega
               rw [bi_f hns])
      · refine o_iconst (n := 83) rfl rfl ?_
        refine o_goto (t := 87) rfl rfl ?_
        refine o_istore_5 (n := 89) rfl rfl rfl ?_
        refine o_iload (n := 91) rfl rfl rfl ?_
        refine o_if_ne (n := 94) (t := 96) rfl rfl rfl (fun h91 => ?_) (fun h91 => ?_)
        · refine o_iinc_3 (n := 99) rfl rfl rfl (by omega) ?_
          refine o_goto (t := 13) rfl rfl ?_
          first
            | (exfalso; omega; done)
            | (refine ih (s + 1) _ _ (by omega) (by omega) (fun t a b => ?_)
               by_cases c : t = s
               · subst c
                 by_cases hc : ρ = 0
                 · exact ⟨fun _ => by omega, fun z => absurd hc z⟩
                 · exact ⟨fun z => absurd z hc, fun _ => by omega⟩
               · exact i3 t a (by omega))
        · refine o_iconst (n := 95) rfl rfl ?_
          refine o_zret rfl rfl (by omega) ?_
          first
            | (exfalso; omega; done)
            | (refine ⟨?_, rfl, rfl⟩
               have hns : ¬ sd ρ n E m := fun z => by
                 have hz := z s i0 (by omega)
                 by_cases hc : ρ = 0
                 · have := hz.1 hc; omega
                 · have := hz.2 hc; omega
               rw [bi_f hns])
    · refine o_aload_n (n := 42) rfl rfl rfl ?_
      refine of_8_16 (n := 45) hS rfl rfl ?_
      refine o_iload (n := 47) rfl rfl rfl ?_
      refine o_iald (n := 48) (L := 324) rfl rfl rfl rfl rfl (by omega) (by omega) ?_
      refine o_if_le (n := 51) (t := 67) rfl rfl rfl (fun h48 => ?_) (fun h48 => ?_)
      · refine o_iconst (n := 68) rfl rfl ?_
        refine o_goto (t := 87) rfl rfl ?_
        refine o_istore_5 (n := 89) rfl rfl rfl ?_
        refine o_iload (n := 91) rfl rfl rfl ?_
        refine o_if_ne (n := 94) (t := 96) rfl rfl rfl (fun h91 => ?_) (fun h91 => ?_)
        · refine o_iinc_3 (n := 99) rfl rfl rfl (by omega) ?_
          refine o_goto (t := 13) rfl rfl ?_
          first
            | (exfalso; omega; done)
            | (refine ih (s + 1) _ _ (by omega) (by omega) (fun t a b => ?_)
               by_cases c : t = s
               · subst c
                 by_cases hc : ρ = 0
                 · exact ⟨fun _ => by omega, fun z => absurd hc z⟩
                 · exact ⟨fun z => absurd z hc, fun _ => by omega⟩
               · exact i3 t a (by omega))
        · refine o_iconst (n := 95) rfl rfl ?_
          refine o_zret rfl rfl (by omega) ?_
          first
            | (exfalso; omega; done)
            | (refine ⟨?_, rfl, rfl⟩
               have hns : ¬ sd ρ n E m := fun z => by
                 have hz := z s i0 (by omega)
                 by_cases hc : ρ = 0
                 · have := hz.1 hc; omega
                 · have := hz.2 hc; omega
               rw [bi_f hns])
      · refine o_aload_n (n := 52) rfl rfl rfl ?_
        refine of_8_16 (n := 55) hS rfl rfl ?_
        refine o_iload (n := 57) rfl rfl rfl ?_
        refine o_iload_n (n := 58) rfl rfl rfl ?_
        refine o_iadd (n := 59) rfl rfl (by omega) ?_
        refine o_iald (n := 60) (L := 324) rfl rfl rfl rfl rfl (by omega) (by omega) ?_
        refine o_if_le (n := 63) (t := 67) rfl rfl rfl (fun h60 => ?_) (fun h60 => ?_)
        · refine o_iconst (n := 68) rfl rfl ?_
          refine o_goto (t := 87) rfl rfl ?_
          refine o_istore_5 (n := 89) rfl rfl rfl ?_
          refine o_iload (n := 91) rfl rfl rfl ?_
          refine o_if_ne (n := 94) (t := 96) rfl rfl rfl (fun h91 => ?_) (fun h91 => ?_)
          · refine o_iinc_3 (n := 99) rfl rfl rfl (by omega) ?_
            refine o_goto (t := 13) rfl rfl ?_
            first
              | (exfalso; omega; done)
              | (refine ih (s + 1) _ _ (by omega) (by omega) (fun t a b => ?_)
                 by_cases c : t = s
                 · subst c
                   by_cases hc : ρ = 0
                   · exact ⟨fun _ => by omega, fun z => absurd hc z⟩
                   · exact ⟨fun z => absurd z hc, fun _ => by omega⟩
                 · exact i3 t a (by omega))
          · refine o_iconst (n := 95) rfl rfl ?_
            refine o_zret rfl rfl (by omega) ?_
            first
              | (exfalso; omega; done)
              | (refine ⟨?_, rfl, rfl⟩
                 have hns : ¬ sd ρ n E m := fun z => by
                   have hz := z s i0 (by omega)
                   by_cases hc : ρ = 0
                   · have := hz.1 hc; omega
                   · have := hz.2 hc; omega
                 rw [bi_f hns])
        · refine o_iconst (n := 64) rfl rfl ?_
          refine o_goto (t := 87) rfl rfl ?_
          refine o_istore_5 (n := 89) rfl rfl rfl ?_
          refine o_iload (n := 91) rfl rfl rfl ?_
          refine o_if_ne (n := 94) (t := 96) rfl rfl rfl (fun h91 => ?_) (fun h91 => ?_)
          · refine o_iinc_3 (n := 99) rfl rfl rfl (by omega) ?_
            refine o_goto (t := 13) rfl rfl ?_
            first
              | (exfalso; omega; done)
              | (refine ih (s + 1) _ _ (by omega) (by omega) (fun t a b => ?_)
                 by_cases c : t = s
                 · subst c
                   by_cases hc : ρ = 0
                   · exact ⟨fun _ => by omega, fun z => absurd hc z⟩
                   · exact ⟨fun z => absurd z hc, fun _ => by omega⟩
                 · exact i3 t a (by omega))
          · refine o_iconst (n := 95) rfl rfl ?_
            refine o_zret rfl rfl (by omega) ?_
            first
              | (exfalso; omega; done)
              | (refine ⟨?_, rfl, rfl⟩
                 have hns : ¬ sd ρ n E m := fun z => by
                   have hz := z s i0 (by omega)
                   by_cases hc : ρ = 0
                   · have := hz.1 hc; omega
                   · have := hz.2 hc; omega
                 rw [bi_f hns])
theorem c8_isSound (hS : am_St r) {d m : Int} (hd : 0 ≤ d) (hd1 : d < 9) (hm : 0 ≤ m) (hm1 : m ≤ 4) (hg : g 8 0 5 = m) (hb : Br ρ n E) (hV : Vr8 g d ρ n E) : Rt 140 [vR 8 0, vI d] g r (some (vI (bi (sd ρ n E m)))) g r := by
  refine rt_of ?_
  show Ou 140 0 [vR 8 0, vI d, vN, vN, vN, vN] [] g r _
  have e1 := hV.2.1
  have hbn := hb.2.1
  refine o_iconst (n := 1) rfl rfl ?_
  refine o_aload_n (n := 2) rfl rfl rfl ?_
  refine of_8_18 (n := 5) hS rfl rfl ?_
  refine o_iload_n (n := 6) rfl rfl rfl ?_
  refine o_iald (n := 7) (L := 9) rfl rfl rfl rfl rfl (by omega) (by omega) ?_
  rw [e1]
  refine o_iconst (n := 8) rfl rfl ?_
  refine o_isub (n := 9) rfl rfl (by omega) ?_
  refine o_imul (n := 10) rfl rfl (by omega) ?_
  refine o_istore_2 (n := 11) rfl rfl rfl ?_
  refine o_iconst (n := 12) rfl rfl ?_
  refine o_istore_3 (n := 13) rfl rfl rfl ?_
  exact l8_isSound hS hd hd1 hm hm1 hg hb hV m.toNat 0 _ _ (by omega) (by omega) (fun t a b => by omega)
end FALL
