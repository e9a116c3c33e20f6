/-! swap. Written by wip/gen/gen50.py -/
theorem fbl_set {gr : Int → Int} {st : Int} : ∀ {n i : Nat} {acc : Int}, i + n ≤ 8 → fbl gr st n (i : Int) acc = 0 ∨ ∀ k, k < 32 → (tb (fbl gr st n (i : Int) acc) k = true ↔ (tb acc k = true ∨ (i ≤ k ∧ k < i + n ∧ tb st k = true ∧ gr (k : Int) = 2)))
  | 0, i, acc, _ => Or.inr (fun k _ => ⟨fun h => Or.inl h, fun h => by
      rcases h with h | h
      · exact h
      · omega⟩)
  | n + 1, i, acc, hi => by
    rw [fbl_s]
    have e : (i : Int) + 1 = ((i + 1 : Nat) : Int) := by omega
    rw [e]
    by_cases c : bt st (i : Int)
    · rw [cif_t c]
      have hti : tb st i = true := (bt_tb (x := st) (k := (i : Int)) (by omega) (by omega)).mp c
      by_cases d : gr (i : Int) = 0
      · rw [cif_t d]; exact Or.inl rfl
      · rw [cif_f d]
        rcases fbl_set (gr := gr) (st := st) (n := n) (i := i + 1) (acc := cif (gr (i : Int) = 2) (am_or acc (am_shl 1 (i : Int))) acc) (by omega) with h | h
        · exact Or.inl h
        · refine Or.inr (fun k hk => ?_)
          rw [h k hk]
          by_cases f : gr (i : Int) = 2
          · rw [cif_t f, tb_or, tb_shlk i (by omega) k hk, Bool.or_eq_true, decide_eq_true_eq]
            constructor
            · intro w
              rcases w with (w | w) | w
              · exact Or.inl w
              · subst w; exact Or.inr ⟨by omega, by omega, hti, f⟩
              · exact Or.inr ⟨by omega, by omega, w.2.2⟩
            · intro w
              rcases w with w | w
              · exact Or.inl (Or.inl w)
              · by_cases z : k = i
                · exact Or.inl (Or.inr z)
                · exact Or.inr ⟨by omega, by omega, w.2.2⟩
          · rw [cif_f f]
            constructor
            · intro w
              rcases w with w | w
              · exact Or.inl w
              · exact Or.inr ⟨by omega, by omega, w.2.2⟩
            · intro w
              rcases w with w | w
              · exact Or.inl w
              · by_cases z : k = i
                · subst z; exact absurd w.2.2.2 f
                · exact Or.inr ⟨by omega, by omega, w.2.2⟩
    · rw [cif_f c]
      have hti : ¬ tb st i = true := fun z => c ((bt_tb (x := st) (k := (i : Int)) (by omega) (by omega)).mpr z)
      rcases fbl_set (gr := gr) (st := st) (n := n) (i := i + 1) (acc := acc) (by omega) with h | h
      · exact Or.inl h
      · refine Or.inr (fun k hk => ?_)
        rw [h k hk]
        constructor
        · intro w
          rcases w with w | w
          · exact Or.inl w
          · exact Or.inr ⟨by omega, by omega, w.2.2⟩
        · intro w
          rcases w with w | w
          · exact Or.inl w
          · by_cases z : k = i
            · subst z; exact absurd w.2.2.1 hti
            · exact Or.inr ⟨by omega, by omega, w.2.2⟩
/-- the rules that fall by a reading -/
def fall (h : GI) (d : Int) (k : Nat) : Prop := (k : Int) < h 8 0 8 ∧ gr (h 27 0 d) (h 28 0 d) (E8 h d) (L8 h) (W8 h) (k : Int) = 2
theorem FB8_set {h : GI} {d st : Int} (h8 : h 8 0 8 ≤ 8) (e : FB8 h d st ≠ 0) (k : Nat) (hk : k < 32) : tb (FB8 h d st) k = true ↔ (tb st k = true ∧ fall h d k) := by
  unfold FB8 FB at e ⊢
  by_cases c : sd (h 27 0 d) (h 28 0 d) (E8 h d) (h 8 0 5)
  · rw [cif_t c] at e ⊢
    rcases fbl_set (gr := gr (h 27 0 d) (h 28 0 d) (E8 h d) (L8 h) (W8 h)) (st := st) (n := (h 8 0 8).toNat) (i := 0) (acc := 0) (by omega) with w | w
    · exact absurd w e
    · have := w k hk
      rw [show ((0 : Nat) : Int) = 0 from rfl] at this
      rw [this, tb_0]
      unfold fall
      constructor
      · intro z
        rcases z with z | z
        · cases z
        · exact ⟨z.2.2.1, by omega, z.2.2.2⟩
      · intro z
        exact Or.inr ⟨by omega, by omega, z.1, z.2.2⟩
  · rw [cif_f c] at e; exact absurd rfl e
theorem tb_not {x y : Int} {k : Nat} (hk : k < 32) : tb (am_and x (am_xor y (-1))) k = (tb x k && !tb y k) := by
  rw [tb_and, tb_xor, tb_m1 k hk]
  cases tb y k <;> rfl
/-- taken away in another order -/
theorem four {h : GI} {S A B C D : Int} {a b : Int} (h8 : h 8 0 8 ≤ 8) (eA : A = FB8 h a S) (eB : B = FB8 h b (am_and S (am_xor A (-1)))) (eC : C = FB8 h b S) (eD : D = FB8 h a (am_and S (am_xor C (-1)))) (nA : A ≠ 0) (nB : B ≠ 0) (nC : C ≠ 0) (nD : D ≠ 0) : am_and (am_and S (am_xor C (-1))) (am_xor D (-1)) = am_and (am_and S (am_xor A (-1))) (am_xor B (-1)) := by
  refine tb_ext (inI_and _ _) (inI_and _ _) (fun k hk => ?_)
  rw [tb_not hk, tb_not hk, tb_not hk, tb_not hk]
  have sA := FB8_set h8 (show FB8 h a S ≠ 0 by rw [← eA]; exact nA) k hk
  have sB := FB8_set h8 (show FB8 h b (am_and S (am_xor A (-1))) ≠ 0 by rw [← eB]; exact nB) k hk
  have sC := FB8_set h8 (show FB8 h b S ≠ 0 by rw [← eC]; exact nC) k hk
  have sD := FB8_set h8 (show FB8 h a (am_and S (am_xor C (-1))) ≠ 0 by rw [← eD]; exact nD) k hk
  rw [← eA] at sA
  rw [← eB, tb_not hk] at sB
  rw [← eC] at sC
  rw [← eD, tb_not hk] at sD
  by_cases fa : fall h a k <;> by_cases fb : fall h b k <;> (simp only [fa, fb, and_true, and_false, iff_false] at sA sB sC sD) <;> revert sA sB sC sD <;> cases tb S k <;> cases tb A k <;> cases tb B k <;> cases tb C k <;> cases tb D k <;> simp
theorem st8_up {h h' : GI} {n : Nat} (e : st8 h' (n : Int) = st8 h (n : Int)) (w : ∀ s, (n : Int) ≤ s → h' 29 0 s = h 29 0 s) : ∀ m : Nat, st8 h' ((n + m : Nat) : Int) = st8 h ((n + m : Nat) : Int)
  | 0 => e
  | m + 1 => by
    rw [show n + (m + 1) = n + m + 1 by omega, st8_s, st8_s, st8_up e w m, w _ (by omega)]
/-- the entries of two slots, the first n exchanged -/
noncomputable def swe (h : GI) (p n : Int) : GI := fun k i s => cif (k = 26 ∧ i = 0 ∧ 36 * p ≤ s ∧ s < 36 * p + n) (h 26 0 (s + 36)) (cif (k = 26 ∧ i = 0 ∧ 36 * p + 36 ≤ s ∧ s < 36 * p + 36 + n) (h 26 0 (s - 36)) (h k i s))
theorem swe_0 {h : GI} {p : Int} : swe h p 0 = h := by
  funext k i s
  unfold swe
  rw [cif_f (by omega), cif_f (by omega)]
theorem swe_k {h : GI} {p n : Int} {k : Nat} (e : k ≠ 26) : swe h p n k = h k := by
  funext i s
  unfold swe
  rw [cif_f (fun z => e z.1), cif_f (fun z => e z.1)]
theorem swe_s {h : GI} {p n : Int} (n0 : 0 ≤ n) (n1 : n < 36) : gset (gset (swe h p n) 26 0 (36 * p + n) (swe h p n 26 0 (36 * p + 36 + n))) 26 0 (36 * p + 36 + n) (swe h p n 26 0 (36 * p + n)) = swe h p (n + 1) := by
  funext k i s
  by_cases k26 : k = 26 ∧ i = 0
  · obtain ⟨e1, e2⟩ := k26
    subst e1; subst e2
    by_cases a : s = 36 * p + 36 + n
    · rw [a, gset_at]
      unfold swe
      rw [cif_f (by omega), cif_f (by omega), cif_f (by omega), cif_t (by omega), show 36 * p + 36 + n - 36 = 36 * p + n by omega]
    · rw [gset_s a]
      by_cases b : s = 36 * p + n
      · rw [b, gset_at]
        unfold swe
        rw [cif_f (by omega), cif_f (by omega), cif_t (by omega), show 36 * p + n + 36 = 36 * p + 36 + n by omega]
      · rw [gset_s b]
        unfold swe
        rw [cif_congr (show (26 = 26 ∧ (0 : Int) = 0 ∧ 36 * p ≤ s ∧ s < 36 * p + n) ↔ (26 = 26 ∧ (0 : Int) = 0 ∧ 36 * p ≤ s ∧ s < 36 * p + (n + 1)) by omega), cif_congr (show (26 = 26 ∧ (0 : Int) = 0 ∧ 36 * p + 36 ≤ s ∧ s < 36 * p + 36 + n) ↔ (26 = 26 ∧ (0 : Int) = 0 ∧ 36 * p + 36 ≤ s ∧ s < 36 * p + 36 + (n + 1)) by omega)]
  · have hn : ∀ q v (G : GI), gset G 26 0 q v k i s = G k i s := fun q v G => by unfold gset; rw [if_neg (fun z => k26 ⟨z.1, z.2.1⟩)]
    rw [hn, hn]
    unfold swe
    rw [cif_f (fun z => k26 ⟨z.1, z.2.1⟩), cif_f (fun z => k26 ⟨z.1, z.2.1⟩), cif_f (fun z => k26 ⟨z.1, z.2.1⟩), cif_f (fun z => k26 ⟨z.1, z.2.1⟩)]
noncomputable def swf (h : GI) (p v w : Int) : GI := gset (gset (gset (gset (gset (gset (swe h p 36) 27 0 p (h 27 0 (p + 1))) 28 0 p (h 28 0 (p + 1))) 27 0 (p + 1) (h 27 0 p)) 28 0 (p + 1) (h 28 0 p)) 29 0 p v) 29 0 (p + 1) w
theorem swf_k {h : GI} {p v w : Int} {k : Nat} (a : k < 26 ∨ 29 < k) : swf h p v w k = h k := by
  unfold swf
  rw [gset_kf (by omega), gset_kf (by omega), gset_kf (by omega), gset_kf (by omega), gset_kf (by omega), gset_kf (by omega), swe_k (by omega)]
theorem swf_29 {h : GI} {p v w : Int} : swf h p v w 29 0 p = v ∧ swf h p v w 29 0 (p + 1) = w ∧ ∀ s, s ≠ p → s ≠ p + 1 → swf h p v w 29 0 s = h 29 0 s := by
  unfold swf
  refine ⟨by rw [gset_s (by omega), gset_at], gset_at, fun s a b => ?_⟩
  rw [gset_s b, gset_s a, gset_k rfl, gset_k rfl, gset_k rfl, gset_k rfl, swe_k (by decide)]
theorem swf_27 {h : GI} {p v w : Int} : swf h p v w 27 0 p = h 27 0 (p + 1) ∧ swf h p v w 27 0 (p + 1) = h 27 0 p ∧ ∀ s, s ≠ p → s ≠ p + 1 → swf h p v w 27 0 s = h 27 0 s := by
  unfold swf
  refine ⟨?_, ?_, fun s a b => ?_⟩
  · rw [gset_k rfl, gset_k rfl, gset_k rfl, gset_s (by omega), gset_k rfl, gset_at]
  · rw [gset_k rfl, gset_k rfl, gset_k rfl, gset_at]
  · rw [gset_k rfl, gset_k rfl, gset_k rfl, gset_s b, gset_k rfl, gset_s a, swe_k (by decide)]
theorem swf_28 {h : GI} {p v w : Int} : swf h p v w 28 0 p = h 28 0 (p + 1) ∧ swf h p v w 28 0 (p + 1) = h 28 0 p ∧ ∀ s, s ≠ p → s ≠ p + 1 → swf h p v w 28 0 s = h 28 0 s := by
  unfold swf
  refine ⟨?_, ?_, fun s a b => ?_⟩
  · rw [gset_k rfl, gset_k rfl, gset_s (by omega), gset_k rfl, gset_at]
  · rw [gset_k rfl, gset_k rfl, gset_at]
  · rw [gset_k rfl, gset_k rfl, gset_s b, gset_k rfl, gset_s a, gset_k rfl, swe_k (by decide)]
theorem swf_26 {h : GI} {p v w : Int} : (∀ s, 0 ≤ s → s < 36 → swf h p v w 26 0 (36 * p + s) = h 26 0 (36 * (p + 1) + s)) ∧ (∀ s, 0 ≤ s → s < 36 → swf h p v w 26 0 (36 * (p + 1) + s) = h 26 0 (36 * p + s)) ∧ ∀ s, s < 36 * p ∨ 36 * p + 72 ≤ s → swf h p v w 26 0 s = h 26 0 s := by
  have e : swf h p v w 26 = swe h p 36 26 := by
    unfold swf
    rw [gset_kf (by decide), gset_kf (by decide), gset_kf (by decide), gset_kf (by decide), gset_kf (by decide), gset_kf (by decide)]
  rw [e]
  unfold swe
  refine ⟨fun s a b => ?_, fun s a b => ?_, fun s a => ?_⟩
  · rw [cif_t (by omega), show 36 * p + s + 36 = 36 * (p + 1) + s by omega]
  · rw [cif_f (by omega), cif_t (by omega), show 36 * (p + 1) + s - 36 = 36 * p + s by omega]
  · rw [cif_f (by omega), cif_f (by omega)]
theorem swf_c {h h1 : GI} {p v w : Int} (p0 : 0 ≤ p) (p1 : p < 7) (a : Ag h h1) : Ag (swf h p v w) (swf h1 p v w) := by
  refine ⟨fun k hk k26 => ?_, fun s hs => ?_⟩
  · have ek := a.1 k hk k26
    funext i s
    unfold swf
    rw [a.1 27 (by omega) (by decide), a.1 28 (by omega) (by decide)]
    unfold gset
    rw [swe_k k26, swe_k k26, ek]
  · by_cases x : s < 36 * p ∨ 36 * p + 72 ≤ s
    · rw [swf_26.2.2 s x, swf_26.2.2 s x, a.2 s hs]
    · by_cases y : s < 36 * p + 36
      · have e1 := swf_26 (h := h) (p := p) (v := v) (w := w)
        have e2 := swf_26 (h := h1) (p := p) (v := v) (w := w)
        rw [show s = 36 * p + (s - 36 * p) by omega, e1.1 _ (by omega) (by omega), e2.1 _ (by omega) (by omega), a.2 _ (by omega)]
      · have e1 := swf_26 (h := h) (p := p) (v := v) (w := w)
        have e2 := swf_26 (h := h1) (p := p) (v := v) (w := w)
        rw [show s = 36 * (p + 1) + (s - 36 * (p + 1)) by omega, e1.2.1 _ (by omega) (by omega), e2.2.1 _ (by omega) (by omega), a.2 _ (by omega)]
section SWAP
variable {c : Int} {g h r g0 r0 : GI} {p v w : Int}
def Swg (g r : GI) (p v w : Int) : GI := gset (gset g 4 (r 15 0 (p + 1)) 1 v) 4 (r 15 0 p) 1 w
def Swr (r R : GI) (p : Int) : GI := gset (gset R 15 0 p (r 15 0 (p + 1))) 15 0 (p + 1) (r 15 0 p)
theorem Swr_15 {R : GI} : Swr r R p 15 0 p = r 15 0 (p + 1) ∧ Swr r R p 15 0 (p + 1) = r 15 0 p ∧ ∀ s, s ≠ p → s ≠ p + 1 → Swr r R p 15 0 s = R 15 0 s := by
  unfold Swr
  exact ⟨by rw [gset_s (by omega), gset_at], gset_at, fun s a b => by rw [gset_s b, gset_s a]⟩
theorem Ist_swap (hR : am_Rg r) (hP : Pj r) (hst : Ist g h r) (h8 : h 8 0 8 ≤ 8) (p0 : 0 ≤ p) (p1 : p + 1 < h 8 0 19) (ev : v = FB8 h (p + 1) (st8 h p)) (ew : w = FB8 h p (am_and (st8 h p) (am_xor v (-1)))) (nv : v ≠ 0) (nw : w ≠ 0) : Ist (Swg g r p v w) (swf h p v w) (Swr r r p) := by
  obtain ⟨u, u1, u2, y⟩ := hst
  have x29 := swf_29 (h := h) (p := p) (v := v) (w := w)
  have x27 := swf_27 (h := h) (p := p) (v := v) (w := w)
  have x28 := swf_28 (h := h) (p := p) (v := v) (w := w)
  have x26 := swf_26 (h := h) (p := p) (v := v) (w := w)
  have x8 : swf h p v w 8 = h 8 := swf_k (by omega)
  have x15 := Swr_15 (r := r) (p := p) (R := r)
  have hp0 := hR.2.1 p p0 (by omega)
  have hp1 := hR.2.1 (p + 1) (by omega) (by omega)
  have hne : r 15 0 p ≠ r 15 0 (p + 1) := fun z => by have := hP.2 p (p + 1) p0 (by omega) (by omega) (by omega) z; omega
  have yp := y p p0 (by omega)
  have yq := y (p + 1) (by omega) p1
  have sp : ∀ k, 0 ≤ k → k ≤ p → st8 (swf h p v w) k = st8 h k := fun k k0 k1 => st8_c (by omega) (by rw [x8]) (fun s a b => x29.2.2 s (by omega) (by omega))
  have ep : (p.toNat : Int) = p := by omega
  have sq : st8 (swf h p v w) (p + 1) = am_and (st8 h p) (am_xor v (-1)) := by
    have := st8_s (h := swf h p v w) p.toNat
    rw [show ((p.toNat + 1 : Nat) : Int) = p + 1 by omega, ep, sp p p0 (by omega), x29.1] at this
    exact this
  have so : st8 h (p + 1) = am_and (st8 h p) (am_xor (h 29 0 p) (-1)) := by
    have := st8_s (h := h) p.toNat
    rw [show ((p.toNat + 1 : Nat) : Int) = p + 1 by omega, ep] at this
    exact this
  have s2 : st8 (swf h p v w) (p + 2) = st8 h (p + 2) := by
    have a1 := st8_s (h := swf h p v w) (p.toNat + 1)
    have a2 := st8_s (h := h) (p.toNat + 1)
    rw [show ((p.toNat + 1 + 1 : Nat) : Int) = p + 2 by omega, show ((p.toNat + 1 : Nat) : Int) = p + 1 by omega] at a1 a2
    rw [a1, a2, sq, so, x29.2.1]
    exact four h8 yp.2.2.2.2 (by rw [← so]; exact yq.2.2.2.2) ev ew yp.2.2.2.1 yq.2.2.2.1 nv nw
  have su : ∀ k, p + 2 ≤ k → st8 (swf h p v w) k = st8 h k := fun k hk => by
    have := st8_up (h := h) (h' := swf h p v w) (n := p.toNat + 2) (by rw [show ((p.toNat + 2 : Nat) : Int) = p + 2 by omega]; exact s2) (fun s hs => x29.2.2 s (by omega) (by omega)) (k - (p + 2)).toNat
    rw [show ((p.toNat + 2 + (k - (p + 2)).toNat : Nat) : Int) = k by omega] at this
    exact this
  have gV : ∀ q ρ n E, Vr7 g q ρ n E → Vr7 (Swg g r p v w) q ρ n E := fun q ρ n E V => Vr7_k (g := g) (by unfold Swg; rw [gset_kf (by decide), gset_kf (by decide)]) (by unfold Swg; rw [gset_kf (by decide), gset_kf (by decide)]) V
  refine ⟨?_, ?_, ?_, fun k k0 k1 => ?_⟩
  · rw [x8]; unfold Swg; rw [gset_k rfl, gset_k rfl]; exact u
  · rw [x8]; exact u1
  · rw [x8]; exact u2
  rw [x8] at k1
  by_cases e : k = p
  · subst e
    have eE : E8 (swf h k v w) k = E8 h (k + 1) := E8_mv (fun s a b => x26.1 s a b)
    rw [x15.1, x29.1, x27.1, x28.1, eE]
    refine ⟨?_, gV _ _ _ _ yq.2.1, yq.2.2.1, nv, ?_⟩
    · unfold Swg; rw [gset_i (fun z => hne z.symm), gset_at]
    · rw [sp k k0 (by omega), FB8_c (h := h) (d := k + 1) (by rw [x8]) (by rw [x8]) x27.1 x28.1 eE (by rw [swf_k (by omega)]) (by rw [swf_k (by omega)])]
      exact ev
  · by_cases e2 : k = p + 1
    · subst e2
      have eE : E8 (swf h p v w) (p + 1) = E8 h p := E8_mv (fun s a b => x26.2.1 s a b)
      rw [x15.2.1, x29.2.1, x27.2.1, x28.2.1, eE]
      refine ⟨?_, gV _ _ _ _ yp.2.1, yp.2.2.1, nw, ?_⟩
      · unfold Swg; rw [gset_at]
      · rw [sq, FB8_c (h := h) (d := p) (by rw [x8]) (by rw [x8]) x27.2.1 x28.2.1 eE (by rw [swf_k (by omega)]) (by rw [swf_k (by omega)])]
        exact ew
    · have yk := y k k0 k1
      have hk := hR.2.1 k k0 (by omega)
      have n1 : r 15 0 k ≠ r 15 0 p := fun z => e (hP.2 k p k0 (by omega) p0 (by omega) z)
      have n2 : r 15 0 k ≠ r 15 0 (p + 1) := fun z => e2 (hP.2 k (p + 1) k0 (by omega) (by omega) (by omega) z)
      have eE : E8 (swf h p v w) k = E8 h k := E8_mv (fun s a b => x26.2.2 _ (by omega))
      have es : st8 (swf h p v w) k = st8 h k := by
        by_cases q : k < p
        · exact sp k k0 (by omega)
        · exact su k (by omega)
      rw [x15.2.2 k e e2, x29.2.2 k e e2, x27.2.2 k e e2, x28.2.2 k e e2, eE, es, FB8_c (h := h) (d := k) (by rw [x8]) (by rw [x8]) (x27.2.2 k e e2) (x28.2.2 k e e2) eE (by rw [swf_k (by omega)]) (by rw [swf_k (by omega)])]
      refine ⟨?_, gV _ _ _ _ yk.2.1, yk.2.2⟩
      unfold Swg; rw [gset_i n1, gset_i n2]; exact yk.1
theorem Iv_swap (hI : Iv c g h r) (p0 : 0 ≤ p) (p1 : p + 1 < h 8 0 19) (ev : v = FB8 h (p + 1) (st8 h p)) (ew : w = FB8 h p (am_and (st8 h p) (am_xor v (-1)))) (nv : v ≠ 0) (nw : w ≠ 0) : Iv c (Swg g r p v w) (swf h p v w) (Swr r r p) := by
  obtain ⟨⟨hS, hR, h6, hP⟩, hsg, htx, hru, hwd, hnw, hst, hsh, hla⟩ := hI
  have s2 := hst.2.2.1
  have G : ∀ k, k ≠ 4 → Swg g r p v w k = g k := fun k a => by unfold Swg; rw [gset_kf a, gset_kf a]
  have H : ∀ k, k < 26 → swf h p v w k = h k := fun k a => swf_k (by omega)
  have X : ∀ k, k ≠ 15 → Swr r r p k = r k := fun k a => by unfold Swr; rw [gset_kf a, gset_kf a]
  have hp0 := hR.2.1 p p0 (by omega)
  have hp1 := hR.2.1 (p + 1) (by omega) (by omega)
  have x15 := Swr_15 (r := r) (p := p) (R := r)
  have xv : ∀ k, 0 ≤ k → k < 8 → ∃ k', 0 ≤ k' ∧ k' < 8 ∧ Swr r r p 15 0 k = r 15 0 k' ∧ k' = cif (k = p) (p + 1) (cif (k = p + 1) p k) := fun k k0 k1 => by
    by_cases e : k = p
    · rw [cif_t e, e]; exact ⟨p + 1, by omega, by omega, x15.1, rfl⟩
    · rw [cif_f e]
      by_cases e2 : k = p + 1
      · rw [cif_t e2, e2]; exact ⟨p, by omega, by omega, x15.2.1, rfl⟩
      · rw [cif_f e2]; exact ⟨k, k0, k1, x15.2.2 k e e2, rfl⟩
  have hS' : am_St (Swr r r p) := by
    unfold am_St
    rw [X 0 (by decide), X 1 (by decide), X 2 (by decide), X 3 (by decide), X 4 (by decide), X 5 (by decide), X 7 (by decide), X 8 (by decide), X 16 (by decide)]
    exact hS
  have hR' : am_Rg (Swr r r p) := by
    refine ⟨?_, fun j j0 j1 => ?_, ?_⟩
    · rw [X 14 (by decide)]; exact hR.1
    · obtain ⟨k', a, b, d, _⟩ := xv j j0 j1
      rw [d]; exact hR.2.1 k' a b
    · rw [X 6 (by decide)]; exact hR.2.2
  have hP' : Pj (Swr r r p) := by
    refine ⟨?_, fun i j i0 i1 j0 j1 e => ?_⟩
    · rw [X 14 (by decide)]; exact hP.1
    · obtain ⟨a, a0, a1, a2, a3⟩ := xv i i0 i1
      obtain ⟨b, b0, b1, b2, b3⟩ := xv j j0 j1
      rw [a2, b2] at e
      have := hP.2 a b a0 a1 b0 b1 e
      rw [a3, b3] at this
      revert this
      by_cases q1 : i = p
      · rw [cif_t q1]
        by_cases q2 : j = p
        · rw [cif_t q2]; omega
        · rw [cif_f q2]
          by_cases q3 : j = p + 1
          · rw [cif_t q3]; omega
          · rw [cif_f q3]; omega
      · rw [cif_f q1]
        by_cases q4 : i = p + 1
        · rw [cif_t q4]
          by_cases q2 : j = p
          · rw [cif_t q2]; omega
          · rw [cif_f q2]
            by_cases q3 : j = p + 1
            · rw [cif_t q3]; omega
            · rw [cif_f q3]; omega
        · rw [cif_f q4]
          by_cases q2 : j = p
          · rw [cif_t q2]; omega
          · rw [cif_f q2]
            by_cases q3 : j = p + 1
            · rw [cif_t q3]; omega
            · rw [cif_f q3]; omega
  refine ⟨⟨hS', hR', ?_, hP'⟩, Isg_c (g := g) (h := h) (by rw [G 7 (by decide)]) (by rw [H 8 (by decide)]) hsg, Itx_c (g := g) (h := h) (by rw [G 5 (by decide)]) (by rw [H 8 (by decide)]) (by rw [G 12 (by decide)]) (by rw [H 21 (by decide)]) htx,
    Iru_c (g := g) (h := h) (r := r) (by omega) hR (fun _ _ _ => by rw [G 1 (by decide)]) (fun _ _ _ => by rw [G 10 (by decide)]) (G 2 (by decide)) (by rw [G 7 (by decide)]) (by rw [H 8 (by decide)]) (by rw [H 22 (by decide)]) (by rw [H 23 (by decide)]) (by rw [H 24 (by decide)]) (by rw [H 8 (by decide)]) (by rw [X 14 (by decide)]) hru,
    Iwd_c (g := g) (h := h) (by omega) (by rw [G 1 (by decide)]) (by rw [G 10 (by decide)]) (by rw [G 7 (by decide)]) (by rw [H 8 (by decide)]) (by rw [H 25 (by decide)]) (by rw [H 8 (by decide)]) hwd,
    Inw_c (g := g) (h := h) (by rw [G 0 (by decide)]) (by rw [G 9 (by decide)]) (swf_27.2.2 8 (by omega) (by omega)) (swf_28.2.2 8 (by omega) (by omega)) (fun s a b => swf_26.2.2 s (by omega)) hnw,
    Ist_swap hR hP hst hru.2.1.1.2 p0 p1 ev ew nv nw,
    Ish_c (g := g) (h := h) (G 3 (by decide)) (G 11 (by decide)) (by rw [H 17 (by decide)]) (by rw [H 18 (by decide)]) (by rw [H 19 (by decide)]) hsh, Ila_c (g := g) (h := h) (by rw [G 7 (by decide)]) (by rw [H 8 (by decide)]) hla⟩
  unfold R6
  rw [X 6 (by decide)]
  exact h6
noncomputable def sv3 (h : GI) (p : Int) : Int := FB8 h (p + 1) (st8 h p)
noncomputable def sv4 (h : GI) (p : Int) : Int := FB8 h p (am_and (st8 h p) (am_xor (sv3 h p) (-1)))
def swok (h : GI) (p : Int) : Prop := (0 ≤ p ∧ p < h 8 0 19 - 1) ∧ sv3 h p ≠ 0 ∧ sv4 h p ≠ 0
noncomputable def swV (h : GI) (p : Int) : Int := cif (0 ≤ p ∧ p < h 8 0 19 - 1) (cif (sv3 h p ≠ 0 ∧ sv4 h p ≠ 0) (sv3 h p) (-3)) (-2)
noncomputable def SwH (h : GI) (p : Int) : GI := cif (swok h p) (swf h p (sv3 h p) (sv4 h p)) h
theorem Fm_S {p v w : Int} : Fm g (Swg g r p v w) := fun k hk => by
  unfold isM at hk
  unfold Swg
  rw [gset_kf (by omega), gset_kf (by omega)]
end SWAP
