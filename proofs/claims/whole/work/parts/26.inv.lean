/-! what binds the component (heap g) to the reference (heap h). Written by wip/gen/gen26.py -/
noncomputable def E8 (h : GI) (d s z y : Int) : Int := cif ((0 ≤ s ∧ s < 4) ∧ (0 ≤ z ∧ z < 3) ∧ (0 ≤ y ∧ y < 3)) (h 26 0 (36 * d + 9 * s + 3 * z + y)) 0
def L8 (h : GI) (i s : Int) : Int := h 23 0 (2 * i + s)
def W8 (h : GI) (i s k : Int) : Int := h 22 0 (12 * i + 6 * s + k)
def Pj (r : GI) : Prop := (∀ i j, 0 ≤ i → i < 8 → 0 ≤ j → j < 8 → r 14 0 i = r 14 0 j → i = j) ∧ (∀ i j, 0 ≤ i → i < 8 → 0 ≤ j → j < 8 → r 15 0 i = r 15 0 j → i = j)
def Ir (r : GI) : Prop := am_St r ∧ am_Rg r ∧ R6 r ∧ Pj r
def Isg (g h : GI) : Prop := 1 ≤ g 7 0 9 ∧ g 7 0 9 ≤ 4 ∧ h 8 0 5 = g 7 0 9
def Itx (g h : GI) : Prop := 0 ≤ g 5 0 1 ∧ g 5 0 1 ≤ 20 ∧ h 8 0 7 = g 5 0 1 ∧ ∀ k, 0 ≤ k → k < g 5 0 1 → h 21 0 k = g 12 0 k
def Iru (c : Int) (g h r : GI) : Prop := Vu7 g r (h 8 0 8) (L8 h) (W8 h) ∧ Bu (h 8 0 8) (L8 h) (W8 h) ∧ ∀ i, 0 ≤ i → i < h 8 0 8 → g 2 (r 14 0 i) 3 = h 24 0 i ∧ (0 ≤ h 24 0 i ∧ h 24 0 i ≤ 40 * c) ∧ (g 2 (r 14 0 i) 2 = 0 ∨ g 2 (r 14 0 i) 2 = 1) ∧ (g 2 (r 14 0 i) 2 ≠ 0 ↔ bt (h 8 0 12) i)
def Iwd (c : Int) (g h : GI) : Prop := Vw7 g 0 (h 8 0 14) (h 25 0) ∧ Bw (h 8 0 14) (h 25 0) ∧ g 7 0 12 = h 8 0 15 ∧ 0 ≤ h 8 0 15 ∧ h 8 0 15 ≤ 40 * c
def Inw (g h : GI) : Prop := Vr7 g 0 (h 27 0 8) (h 28 0 8) (E8 h 8) ∧ Br (h 27 0 8) (h 28 0 8) (E8 h 8)
noncomputable def FB8 (h : GI) (d st : Int) : Int := FB (h 27 0 d) (h 28 0 d) (E8 h d) (h 8 0 5) (h 8 0 8) (L8 h) (W8 h) st
def Ist (g h r : GI) : Prop := g 7 0 11 = h 8 0 19 ∧ 0 ≤ h 8 0 19 ∧ h 8 0 19 ≤ 8 ∧ ∀ k, 0 ≤ k → k < h 8 0 19 → g 4 (r 15 0 k) 1 = h 29 0 k ∧ Vr7 g (2 + r 15 0 k) (h 27 0 k) (h 28 0 k) (E8 h k) ∧ Br (h 27 0 k) (h 28 0 k) (E8 h k) ∧ h 29 0 k ≠ 0 ∧ h 29 0 k = FB8 h k (st8 h k)
def Ish (g h : GI) : Prop := ∀ s, 0 ≤ s → s < 4 → (g 3 s 0 = h 17 0 s ∧ -1 ≤ h 17 0 s ∧ h 17 0 s ≤ 2) ∧ (g 3 s 1 = h 18 0 s ∧ 0 ≤ h 18 0 s ∧ h 18 0 s ≤ 60) ∧ ∀ i, 0 ≤ i → i < h 18 0 s → g 11 s i = h 19 0 (60 * s + i)
def Ila (g h : GI) : Prop := g 7 0 13 = h 8 0 4
def Iv (c : Int) (g h r : GI) : Prop := Ir r ∧ Isg g h ∧ Itx g h ∧ Iru c g h r ∧ Iwd c g h ∧ Inw g h ∧ Ist g h r ∧ Ish g h ∧ Ila g h
section CONG
variable {g h g' h' r r' : GI} {c c' : Int}
theorem Isg_c (a : g' 7 0 9 = g 7 0 9) (b : h' 8 0 5 = h 8 0 5) (i : Isg g h) : Isg g' h' := by unfold Isg; rw [a, b]; exact i
theorem Itx_c (a : g' 5 0 1 = g 5 0 1) (b : h' 8 0 7 = h 8 0 7) (d : g' 12 0 = g 12 0) (e : h' 21 0 = h 21 0) (i : Itx g h) : Itx g' h' := by unfold Itx; rw [a, b, d, e]; exact i
theorem L8_c (a : h' 23 0 = h 23 0) : L8 h' = L8 h := by funext i s; unfold L8; rw [a]
theorem W8_c (a : h' 22 0 = h 22 0) : W8 h' = W8 h := by funext i s k; unfold W8; rw [a]
theorem Iru_c (hc : c ≤ c') (hR : am_Rg r) (a1 : ∀ q s, 1 ≤ q → g' 1 q s = g 1 q s) (a2 : ∀ q k, 1 ≤ q → g' 10 q k = g 10 q k) (a3 : g' 2 = g 2) (a4 : g' 7 0 10 = g 7 0 10) (b1 : h' 8 0 8 = h 8 0 8) (b2 : h' 22 0 = h 22 0) (b3 : h' 23 0 = h 23 0) (b4 : h' 24 0 = h 24 0) (b5 : h' 8 0 12 = h 8 0 12) (e : r' 14 0 = r 14 0) (i : Iru c g h r) : Iru c' g' h' r' := by
  obtain ⟨⟨u0, u1⟩, v, w⟩ := i
  have hv := v.1
  unfold Iru Vu7
  rw [L8_c b3, W8_c b2, b1, b4, b5, a3, a4, e]
  refine ⟨⟨u0, fun i x y => ?_⟩, v, fun i x y => ?_⟩
  · have hr := hR.1 i x (by omega)
    have := u1 i x y
    unfold Vw7 at this ⊢
    rw [a1 _ _ (by omega), a1 _ _ (by omega)]
    refine ⟨⟨this.1.1, fun k k0 k1 => ?_⟩, ⟨this.2.1, fun k k0 k1 => ?_⟩⟩
    · rw [a2 _ _ (by omega)]; exact this.1.2 k k0 k1
    · rw [a2 _ _ (by omega)]; exact this.2.2 k k0 k1
  · have := w i x y
    exact ⟨this.1, ⟨this.2.1.1, by have := this.2.1.2; omega⟩, this.2.2.1, this.2.2.2⟩
theorem Iwd_c (hc : c ≤ c') (a1 : g' 1 0 1 = g 1 0 1) (a2 : g' 10 0 = g 10 0) (a3 : g' 7 0 12 = g 7 0 12) (b1 : h' 8 0 14 = h 8 0 14) (b2 : h' 25 0 = h 25 0) (b3 : h' 8 0 15 = h 8 0 15) (i : Iwd c g h) : Iwd c' g' h' := by
  obtain ⟨u, v, w, x, y⟩ := i
  unfold Iwd Vw7
  rw [a1, a2, a3, b1, b2, b3]
  exact ⟨u, v, w, x, by omega⟩
theorem E8_c {d : Int} (d0 : 0 ≤ d) (a : ∀ s, 36 * d ≤ s → s < 36 * d + 36 → h' 26 0 s = h 26 0 s) : E8 h' d = E8 h d := by
  funext s z y
  unfold E8
  by_cases e : (0 ≤ s ∧ s < 4) ∧ (0 ≤ z ∧ z < 3) ∧ (0 ≤ y ∧ y < 3)
  · rw [cif_t e, cif_t e]; exact a _ (by omega) (by omega)
  · rw [cif_f e, cif_f e]
theorem E8_i {d s z y : Int} (a0 : 0 ≤ s) (a1 : s < 4) (b0 : 0 ≤ z) (b1 : z < 3) (c0 : 0 ≤ y) (c1 : y < 3) : E8 h d s z y = h 26 0 (36 * d + 9 * s + 3 * z + y) := cif_t ⟨⟨a0, a1⟩, ⟨b0, b1⟩, ⟨c0, c1⟩⟩
theorem Vr8_E (d : Int) : Vr8 h d (h 27 0 d) (h 28 0 d) (E8 h d) := ⟨rfl, rfl, fun s z y a0 a1 b0 b1 c0 c1 => (E8_i a0 a1 b0 b1 c0 c1).symm⟩
theorem Inw_c (a0 : g' 0 0 = g 0 0) (a9 : g' 9 0 = g 9 0) (b1 : h' 27 0 8 = h 27 0 8) (b2 : h' 28 0 8 = h 28 0 8) (b3 : ∀ s, 288 ≤ s → s < 324 → h' 26 0 s = h 26 0 s) (i : Inw g h) : Inw g' h' := by
  unfold Inw Vr7
  rw [a0, a9, b1, b2, E8_c (d := 8) (by omega) (fun s x y => b3 s (by omega) (by omega))]
  exact i
theorem st8_c {k : Int} (hk : k ≤ 8) (b1 : h' 8 0 8 = h 8 0 8) (b2 : ∀ s, 0 ≤ s → s < k → h' 29 0 s = h 29 0 s) : st8 h' k = st8 h k := by
  unfold st8
  rw [b1]
  exact lb_congr (fun j x y => b2 j x (by omega))
theorem Ist_c (hR : am_Rg r) (a1 : g' 7 0 11 = g 7 0 11) (a2 : g' 4 = g 4) (a3 : ∀ q s, 2 ≤ q → g' 0 q s = g 0 q s) (a4 : ∀ q s, 2 ≤ q → g' 9 q s = g 9 q s) (b0 : h' 8 0 5 = h 8 0 5) (b1 : h' 8 0 8 = h 8 0 8) (b2 : h' 8 0 19 = h 8 0 19) (b3 : h' 29 0 = h 29 0) (b4 : ∀ k, k < 8 → h' 27 0 k = h 27 0 k) (b5 : ∀ k, k < 8 → h' 28 0 k = h 28 0 k) (b6 : ∀ s, s < 288 → h' 26 0 s = h 26 0 s) (b7 : h' 22 0 = h 22 0) (b8 : h' 23 0 = h 23 0) (e : r' 15 0 = r 15 0) (i : Ist g h r) : Ist g' h' r' := by
  obtain ⟨u, v, w, x⟩ := i
  unfold Ist
  rw [a1, a2, b2, b3, e]
  refine ⟨u, v, w, fun k k0 k1 => ?_⟩
  have hr := hR.2.1 k k0 (by omega)
  have hx := x k k0 k1
  have hE : E8 h' k = E8 h k := E8_c k0 (fun s y z => b6 s (by omega))
  have hst : st8 h' k = st8 h k := st8_c (by omega) b1 (fun s y z => by rw [b3])
  unfold FB8 at hx ⊢
  unfold Vr7 at hx ⊢
  rw [b4 k (by omega), b5 k (by omega), hE, hst, L8_c b8, W8_c b7, b0, b1, a3 _ _ (by omega), a3 _ _ (by omega)]
  refine ⟨hx.1, ⟨hx.2.1.1, hx.2.1.2.1, fun s z y p0 p1 q0 q1 s0 s1 => ?_⟩, hx.2.2⟩
  rw [a4 _ _ (by omega)]
  exact hx.2.1.2.2 s z y p0 p1 q0 q1 s0 s1
theorem Ish_c (a1 : g' 3 = g 3) (a2 : g' 11 = g 11) (b1 : h' 17 0 = h 17 0) (b2 : h' 18 0 = h 18 0) (b3 : h' 19 0 = h 19 0) (i : Ish g h) : Ish g' h' := by unfold Ish; rw [a1, a2, b1, b2, b3]; exact i
theorem Ila_c (a : g' 7 0 13 = g 7 0 13) (b : h' 8 0 4 = h 8 0 4) (i : Ila g h) : Ila g' h' := by unfold Ila; rw [a, b]; exact i
theorem Vu8_E (hl : 0 ≤ h 8 0 8) : Vu8 h (h 8 0 8) (L8 h) (W8 h) := by
  refine ⟨rfl, fun i i0 i1 => ⟨⟨?_, rfl⟩, fun k k0 k1 => ?_, fun k k0 k1 => ?_⟩⟩
  · unfold L8; rw [Int.add_zero]
  · unfold W8; rw [show 12 * i + 6 * 0 + k = 12 * i + k by omega]
  · unfold W8; rw [show 12 * i + 6 * 1 + k = 12 * i + 6 + k by omega]
end CONG
/-- kinds of the reference -/
def isM (k : Nat) : Prop := k = 8 ∨ (17 ≤ k ∧ k ≤ 33)
theorem Iv_h {c : Int} {g h h1 r : GI} (hM : ∀ k, isM k → h1 k = h k) (i : Iv c g h r) : Iv c g h1 r := by
  have m8 := hM 8 (Or.inl rfl)
  have m : ∀ k, 17 ≤ k → k ≤ 33 → h1 k = h k := fun k a b => hM k (Or.inr ⟨a, b⟩)
  obtain ⟨i1, i2, i3, i4, i5, i6, i7, i8, i9⟩ := i
  exact ⟨i1, Isg_c rfl (by rw [m8]) i2, Itx_c rfl (by rw [m8]) rfl (by rw [m 21 (by decide) (by decide)]) i3,
    Iru_c (Int.le_refl c) i1.2.1 (fun _ _ _ => rfl) (fun _ _ _ => rfl) rfl rfl (by rw [m8]) (by rw [m 22 (by decide) (by decide)]) (by rw [m 23 (by decide) (by decide)]) (by rw [m 24 (by decide) (by decide)]) (by rw [m8]) rfl i4,
    Iwd_c (Int.le_refl c) rfl rfl rfl (by rw [m8]) (by rw [m 25 (by decide) (by decide)]) (by rw [m8]) i5,
    Inw_c rfl rfl (by rw [m 27 (by decide) (by decide)]) (by rw [m 28 (by decide) (by decide)]) (fun s _ _ => by rw [m 26 (by decide) (by decide)]) i6,
    Ist_c i1.2.1 rfl rfl (fun _ _ _ => rfl) (fun _ _ _ => rfl) (by rw [m8]) (by rw [m8]) (by rw [m8]) (by rw [m 29 (by decide) (by decide)]) (fun k _ => by rw [m 27 (by decide) (by decide)]) (fun k _ => by rw [m 28 (by decide) (by decide)]) (fun k _ => by rw [m 26 (by decide) (by decide)]) (by rw [m 22 (by decide) (by decide)]) (by rw [m 23 (by decide) (by decide)]) rfl i7,
    Ish_c rfl rfl (by rw [m 17 (by decide) (by decide)]) (by rw [m 18 (by decide) (by decide)]) (by rw [m 19 (by decide) (by decide)]) i8, Ila_c rfl (by rw [m8]) i9⟩
theorem Iv_up {c : Int} {g h r : GI} (i : Iv c g h r) : Iv (c + 1) g h r := by
  obtain ⟨i1, i2, i3, i4, i5, i6, i7, i8, i9⟩ := i
  exact ⟨i1, i2, i3, Iru_c (by omega) i1.2.1 (fun _ _ _ => rfl) (fun _ _ _ => rfl) rfl rfl rfl rfl rfl rfl rfl rfl i4, Iwd_c (by omega) rfl rfl rfl rfl rfl rfl i5, i6, i7, i8, i9⟩
/-- what the reference answers after the component -/
def Q8 (m8 : Nat) (as : List AV) (c : Int) (g0 : GI) : Option AV → GI → GI → Prop := fun v g1 r1 => ∃ g2 r2, Rt m8 as g1 r1 v g2 r2 ∧ Iv (c + 1) g2 g2 r2 ∧ g2 34 = g0 34 ∧ g2 35 = g0 35
/-- a call of both: like answers, bound again -/
def Pr (m7 m8 : Nat) (as : List AV) : Prop := ∀ c g r, 0 ≤ c → c ≤ 3072 → Iv c g g r → Ou m7 0 (am_ini m7 (vR 7 0 :: as)) [] g r (Q8 m8 (vR 8 0 :: as) c g)
theorem q8_of {m8 : Nat} {as : List AV} {c : Int} {g g0 g1 r r1 : GI} {v : Option AV} (hM : ∀ k, isM k → g1 k = g k) (i : Iv c g g r) (k : ∀ h, g1 = h → Iv c g h r → Ou m8 0 (am_ini m8 as) [] h r1 (fun v' g2 r2 => v' = v ∧ Iv (c + 1) g2 g2 r2 ∧ g2 34 = g0 34 ∧ g2 35 = g0 35)) : Q8 m8 as c g0 v g1 r1 := by
  obtain ⟨v', g2, r2, h1, h2, h3, h4⟩ := rt_ex (k g1 rfl (Iv_h hM i))
  subst h2
  exact ⟨g2, r2, h1, h3, h4⟩
theorem isM_ne {K k : Nat} (h : isM k) (hK : K < 8 ∨ (9 ≤ K ∧ K ≤ 16)) : k ≠ K := by
  unfold isM at h; omega
