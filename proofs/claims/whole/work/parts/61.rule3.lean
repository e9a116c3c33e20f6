/-! rule: bound again. Written by wip/gen/gen61.py -/
section RULE3
variable {c c' : Int} {g h r G h3 : GI} {A T : Int}
theorem Iv_rule (hc : c ≤ c') (c0 : 0 ≤ c) (hI : Iv c g h r) (h19 : h 8 0 19 = 0) (R7 : h 8 0 8 < 8) (eT : T = h 8 0 7) (hA : Aok h 21 (h 8 0 5) T A) (hT : T7 g G (r 14 0 (h 8 0 8)) T A) (P : Pq h h3 (h 8 0 8) A A (T - A - 1) (nsb h (h 8 0 8) A)) : Iv c' (gset (gset G 5 0 1 0) 7 0 10 (h 8 0 8 + 1)) (gset (gset (gset h3 24 0 (h 8 0 8) 0) 8 0 7 0) 8 0 8 (h 8 0 8 + 1)) r := by
  obtain ⟨⟨hS, hR, h6, hP⟩, hsg, htx, hru, hwd, hnw, hst, hsh, hla⟩ := hI
  obtain ⟨⟨v0, v1⟩, v2, v3⟩ := hru
  have R8 := v2.1
  obtain ⟨t1, t2, t3, t4, t5, t6, t7, t8⟩ := hT
  obtain ⟨p1, p2, p3, p4, p5, p6, p7, p8, p9⟩ := P
  obtain ⟨a1, a2, a3, a4, a5⟩ := hA
  have hq := hR.1 (h 8 0 8) (by omega) (by omega)
  have m1 := hsg.1
  have m2 := hsg.2.1
  have m3 := hsg.2.2
  have tx1 := htx.1
  have tx2 := htx.2.1
  have tx3 := htx.2.2.1
  have tx4 := htx.2.2.2
  have Gk : ∀ k, k ≠ 1 → k ≠ 2 → k ≠ 5 → k ≠ 7 → k ≠ 10 → gset (gset G 5 0 1 0) 7 0 10 (h 8 0 8 + 1) k = g k := fun k a b d e f => by rw [gset_kf e, gset_kf d]; exact t1 k a b f
  have G7 : ∀ s, s ≠ 10 → gset (gset G 5 0 1 0) 7 0 10 (h 8 0 8 + 1) 7 0 s = g 7 0 s := fun s hs => by rw [gset_s hs, gset_k rfl, t1 7 (by decide) (by decide) (by decide)]
  have G1 : ∀ k i s, k = 1 ∨ k = 2 ∨ k = 10 → gset (gset G 5 0 1 0) 7 0 10 (h 8 0 8 + 1) k i s = G k i s := fun k i s hk => by rw [gset_kf (by omega), gset_kf (by omega)]
  have Hk : ∀ k, k ≠ 8 → k ≠ 22 → k ≠ 23 → k ≠ 24 → gset (gset (gset h3 24 0 (h 8 0 8) 0) 8 0 7 0) 8 0 8 (h 8 0 8 + 1) k = h k := fun k a b d e => by rw [gset_kf a, gset_kf a, gset_kf e]; exact p1 k a b d
  have H8 : ∀ s, s ≠ 7 → s ≠ 8 → s ≠ 12 → gset (gset (gset h3 24 0 (h 8 0 8) 0) 8 0 7 0) 8 0 8 (h 8 0 8 + 1) 8 0 s = h 8 0 s := fun s a b d => by rw [gset_s b, gset_s a, gset_k rfl]; exact p2 s d
  have H12 : gset (gset (gset h3 24 0 (h 8 0 8) 0) 8 0 7 0) 8 0 8 (h 8 0 8 + 1) 8 0 12 = nsb h (h 8 0 8) A := by rw [gset_s (by decide), gset_s (by decide), gset_k rfl]; exact p9
  have H2 : ∀ k, k = 22 ∨ k = 23 → gset (gset (gset h3 24 0 (h 8 0 8) 0) 8 0 7 0) 8 0 8 (h 8 0 8 + 1) k = h3 k := fun k hk => by rw [gset_kf (by omega), gset_kf (by omega), gset_kf (by omega)]
  have H24 : ∀ s, gset (gset (gset h3 24 0 (h 8 0 8) 0) 8 0 7 0) 8 0 8 (h 8 0 8 + 1) 24 0 s = cif (s = h 8 0 8) 0 (h 24 0 s) := fun s => by
    rw [gset_k rfl, gset_k rfl]
    by_cases e : s = h 8 0 8
    · rw [cif_t e, e, gset_at]
    · rw [cif_f e, gset_s e, p1 24 (by decide) (by decide) (by decide)]
  generalize hGG : gset (gset G 5 0 1 0) 7 0 10 (h 8 0 8 + 1) = GG at *
  generalize hHH : gset (gset (gset h3 24 0 (h 8 0 8) 0) 8 0 7 0) 8 0 8 (h 8 0 8 + 1) = HH at *
  have z1 : GG 7 0 10 = h 8 0 8 + 1 := by rw [← hGG]; exact gset_at
  have z2 : HH 8 0 8 = h 8 0 8 + 1 := by rw [← hHH]; exact gset_at
  have z3 : HH 8 0 7 = 0 := by rw [← hHH, gset_s (by decide), gset_at]
  have z4 : GG 5 0 1 = 0 := by rw [← hGG, gset_k rfl, gset_at]
  have L0 : ∀ i s, 0 ≤ i → i < h 8 0 8 → s = 0 ∨ s = 1 → L8 HH i s = L8 h i s := fun i s i0 i1 hs => by
    unfold L8; rw [H2 23 (by omega)]; exact p4 _ (by omega) (by omega)
  have W0 : ∀ i s k, 0 ≤ i → i < h 8 0 8 → s = 0 ∨ s = 1 → 0 ≤ k → k < 6 → W8 HH i s k = W8 h i s k := fun i s k i0 i1 hs k0 k1 => by
    unfold W8; rw [H2 22 (by omega)]; exact p3 _ (by omega)
  have LA : L8 HH (h 8 0 8) 0 = A := by unfold L8; rw [H2 23 (by omega), Int.add_zero]; exact p6
  have LB : L8 HH (h 8 0 8) 1 = T - A - 1 := by unfold L8; rw [H2 23 (by omega)]; exact p7
  have WA : ∀ k, 0 ≤ k → k < A → W8 HH (h 8 0 8) 0 k = h 21 0 k - 97 := fun k k0 k1 => by
    unfold W8; rw [H2 22 (by omega), show 12 * h 8 0 8 + 6 * 0 + k = 12 * h 8 0 8 + k by omega]; exact p5 k k0 k1
  have WB : ∀ k, 0 ≤ k → k < T - A - 1 → W8 HH (h 8 0 8) 1 k = h 21 0 (A + 1 + k) - 97 := fun k k0 k1 => by
    unfold W8; rw [H2 22 (by omega), show 12 * h 8 0 8 + 6 * 1 + k = 12 * h 8 0 8 + 6 + k by omega]; exact p8 k k0 k1
  refine ⟨⟨hS, hR, h6, hP⟩, Isg_c (g := g) (h := h) (G7 9 (by decide)) (H8 5 (by decide) (by decide) (by decide)) hsg, ⟨by rw [z4]; decide, by rw [z4]; decide, by rw [z3, z4], fun k k0 k1 => by rw [z4] at k1; omega⟩, ⟨⟨by rw [z1, z2], fun i i0 i1 => ?_⟩, ⟨by rw [z2]; omega, fun i i0 i1 => ?_⟩, fun i i0 i1 => ?_⟩,
    Iwd_c (g := g) (h := h) (by omega) (by rw [G1 1 _ _ (by omega)]; exact (t2 0 1 (by omega) (by omega)).1) (by funext s; rw [G1 10 _ _ (by omega)]; exact (t2 0 s (by omega) (by omega)).2) (G7 12 (by decide)) (H8 14 (by decide) (by decide) (by decide)) (by rw [Hk 25 (by decide) (by decide) (by decide) (by decide)]) (H8 15 (by decide) (by decide) (by decide)) hwd,
    Inw_c (g := g) (h := h) (by rw [Gk 0 (by decide) (by decide) (by decide) (by decide) (by decide)]) (by rw [Gk 9 (by decide) (by decide) (by decide) (by decide) (by decide)]) (by rw [Hk 27 (by decide) (by decide) (by decide) (by decide)]) (by rw [Hk 28 (by decide) (by decide) (by decide) (by decide)]) (fun s a b => by rw [Hk 26 (by decide) (by decide) (by decide) (by decide)]) hnw,
    Ist_n (by rw [G7 11 (by decide)]; have := hst.1; omega) (by rw [H8 19 (by decide) (by decide) (by decide)]; exact h19),
    Ish_c (g := g) (h := h) (Gk 3 (by decide) (by decide) (by decide) (by decide) (by decide)) (Gk 11 (by decide) (by decide) (by decide) (by decide) (by decide)) (by rw [Hk 17 (by decide) (by decide) (by decide) (by decide)]) (by rw [Hk 18 (by decide) (by decide) (by decide) (by decide)]) (by rw [Hk 19 (by decide) (by decide) (by decide) (by decide)]) hsh, Ila_c (g := g) (h := h) (G7 13 (by decide)) (H8 4 (by decide) (by decide) (by decide)) hla⟩
  · rw [z2] at i1
    unfold Vw7
    rw [G1 1 _ _ (by omega), G1 1 _ _ (by omega)]
    by_cases e : i = h 8 0 8
    · subst e
      rw [LA, LB]
      refine ⟨⟨t4.1, fun k k0 k1 => ?_⟩, t4.2, fun k k0 k1 => ?_⟩
      · rw [G1 10 _ _ (by omega), WA k k0 k1, t5 k k0 k1, tx4 k k0 (by omega)]
      · rw [G1 10 _ _ (by omega), WB k k0 k1, t6 k k0 k1, tx4 _ (by omega) (by omega)]
    · have hi := hR.1 i i0 (by omega)
      have hne : r 14 0 i ≠ r 14 0 (h 8 0 8) := fun z => e (hP.1 i (h 8 0 8) i0 (by omega) (by omega) (by omega) z)
      have V := v1 i i0 (by omega)
      have B := v2.2 i i0 (by omega)
      have b1 := B.1.2
      have b2 := B.2.2
      rw [L0 i 0 i0 (by omega) (by omega), L0 i 1 i0 (by omega) (by omega), (t2 _ _ (by omega) (by omega)).1, (t2 _ _ (by omega) (by omega)).1]
      refine ⟨⟨V.1.1, fun k k0 k1 => ?_⟩, V.2.1, fun k k0 k1 => ?_⟩
      · rw [G1 10 _ _ (by omega), (t2 _ _ (by omega) (by omega)).2, W0 i 0 k i0 (by omega) (by omega) k0 (by omega)]; exact V.1.2 k k0 k1
      · rw [G1 10 _ _ (by omega), (t2 _ _ (by omega) (by omega)).2, W0 i 1 k i0 (by omega) (by omega) k0 (by omega)]; exact V.2.2 k k0 k1
  · rw [z2] at i1
    by_cases e : i = h 8 0 8
    · subst e
      rw [LA, LB]
      refine ⟨⟨⟨⟨by omega, by omega⟩, fun k k0 k1 => ?_⟩, by omega⟩, ⟨⟨by omega, by omega⟩, fun k k0 k1 => ?_⟩, by omega⟩
      · rw [WA k k0 k1]
        have := a3 k k0 k1
        unfold ltr at this
        omega
      · rw [WB k k0 k1]
        have := a5 (A + 1 + k) (by omega) (by omega)
        unfold ltr at this
        omega
    · have B := v2.2 i i0 (by omega)
      rw [L0 i 0 i0 (by omega) (by omega), L0 i 1 i0 (by omega) (by omega)]
      have b1 := B.1.2
      have b2 := B.2.2
      refine ⟨⟨⟨B.1.1.1, fun k k0 k1 => ?_⟩, b1⟩, ⟨B.2.1.1, fun k k0 k1 => ?_⟩, b2⟩
      · rw [W0 i 0 k i0 (by omega) (by omega) k0 (by omega)]; exact B.1.1.2 k k0 k1
      · rw [W0 i 1 k i0 (by omega) (by omega) k0 (by omega)]; exact B.2.1.2 k k0 k1
  · rw [z2] at i1
    rw [G1 2 _ _ (by omega), G1 2 _ _ (by omega), H24, H12]
    by_cases e : i = h 8 0 8
    · subst e
      rw [cif_t rfl, t7, t8]
      refine ⟨rfl, ⟨by omega, by omega⟩, bi_01 _, ?_⟩
      unfold nsb
      rw [← tx4 A (by omega) (by omega)]
      by_cases q : h 21 0 A = 62
      · rw [cif_t q, bi_t q]
        have : bt (am_or (h 8 0 12) (am_shl 1 (h 8 0 8))) (h 8 0 8) := (bt_or i0 (by omega)).mpr (Or.inr ((bt_shl (by omega) (by omega) i0 (by omega)).mpr rfl))
        exact ⟨fun _ => this, fun _ => by decide⟩
      · rw [cif_f q, bi_f q]
        have : ¬ bt (am_and (h 8 0 12) (am_xor (am_shl 1 (h 8 0 8)) (-1))) (h 8 0 8) := fun w => (bt_not i0 (by omega)).mp ((bt_and i0 (by omega)).mp w).2 ((bt_shl (by omega) (by omega) i0 (by omega)).mpr rfl)
        exact ⟨fun w => absurd rfl w, fun w => absurd w this⟩
    · have hne : r 14 0 i ≠ r 14 0 (h 8 0 8) := fun z => e (hP.1 i (h 8 0 8) i0 (by omega) (by omega) (by omega) z)
      have w := v3 i i0 (by omega)
      rw [cif_f e, t3 _ _ hne, t3 _ _ hne]
      refine ⟨w.1, ⟨w.2.1.1, by omega⟩, w.2.2.1, ?_⟩
      rw [w.2.2.2]
      unfold nsb
      by_cases q : h 21 0 A = 62
      · rw [cif_t q, bt_or i0 (by omega), bt_shl (by omega) (by omega) i0 (by omega)]
        exact ⟨fun z => Or.inl z, fun z => by
          rcases z with z | z
          · exact z
          · exact absurd z e⟩
      · rw [cif_f q, bt_and i0 (by omega), bt_not i0 (by omega), bt_shl (by omega) (by omega) i0 (by omega)]
        exact ⟨fun z => ⟨z, e⟩, fun z => z.1⟩
end RULE3
theorem p_rule : Pr 49 128 [] := by
  intro c g r c0 c1 hI
  obtain ⟨n1, v1, g1, r1, e1, e2, e3⟩ := c7_rule hI
  subst e2
  refine ⟨n1, _, _, _, e1, ?_⟩
  rcases e3 with ⟨hn, eg, er⟩ | ⟨ho, er, A, G, hA, hT, eg⟩
  · subst eg
    subst er
    obtain ⟨v2, g2, r2, d1, d2, d3, d4⟩ := rt_ex (c8_rule hI hI.1.1)
    subst d2; subst d3
    rcases d4 with ⟨_, eg2⟩ | ⟨ho, _⟩
    · subst eg2
      exact ⟨_, _, d1, Iv_up hI, rfl, rfl⟩
    · exact absurd ho hn
  · subst er
    have hM : ∀ k, isM k → g1 k = g k := fun k hk => by
      unfold isM at hk
      rw [eg, gset_kf (by omega), gset_kf (by omega)]
      exact hT.1 k (by omega) (by omega) (by omega)
    have m8 := hM 8 (by unfold isM; omega)
    have m21 := hM 21 (by unfold isM; omega)
    have efr : frS g1 = frS g := by
      unfold frS
      rw [m8]
      exact fr_congr (fun k _ _ => by rw [m21])
    have eA : ruA g1 = ruA g := by unfold ruA; rw [m8, efr]
    have tx := hI.2.2.1
    have sg := hI.2.1.2.2
    have hA21 : Aok g 21 (g 8 0 5) (g 8 0 7) A := by
      obtain ⟨a1, a2, a3, a4, a5⟩ := hA
      rw [sg, tx.2.2.1]
      refine ⟨a1, a2, fun k k0 k1 => ?_, by rw [tx.2.2.2 A (by omega) (by omega)]; exact a4, fun k k0 k1 => ?_⟩
      · have := a3 k k0 k1
        unfold ltr at this ⊢
        rw [tx.2.2.2 k k0 (by omega)]; exact this
      · have := a5 k k0 k1
        unfold ltr at this ⊢
        rw [tx.2.2.2 k (by omega) (by omega)]; exact this
    have hAg : Aok g1 21 (g1 8 0 5) (g1 8 0 7) A := by
      unfold Aok ltr at hA21 ⊢
      rw [m8, m21]; exact hA21
    obtain ⟨v2, g2, r2, d1, d2, d3, d4⟩ := rt_ex (c8_rule (g := g1) (r := r1) (Iv_h hM hI) hI.1.1)
    subst d2; subst d3
    rw [eA] at d1
    rcases d4 with ⟨hn, _⟩ | ⟨_, d5⟩
    · refine absurd ⟨?_, ?_, ?_⟩ hn
      · rw [m8]; exact ho.1
      · rw [m8]; exact ho.2.1
      · rw [efr]; exact ho.2.2
    · obtain ⟨g3, P, eg2⟩ := d5 A hAg
      have hru0 : g 7 0 10 = g 8 0 8 := hI.2.2.2.1.1.1
      have hR8 := hI.2.2.2.1.2.1.1
      have hT' : T7 g G (r2 14 0 (g1 8 0 8)) (g1 8 0 7) A := by rw [m8, ← hru0, tx.2.2.1]; exact hT
      have I2 := Iv_rule (c := c) (c' := c + 1) (by omega) c0 (Iv_h hM hI) (by rw [m8]; exact ho.1) (by rw [m8]; have := ho.2.1; omega) rfl hAg hT' P
      rw [← eg2, m8, ← hru0, ← eg] at I2
      have I3 : Iv (c + 1) g2 g2 r2 := Iv_G (Int.le_refl _) (fun k hk => by
        rw [eg2, gset_kf (by omega), gset_kf (by omega), gset_kf (by omega), P.1 k (by omega) (by omega) (by omega)]) (Ag_refl _) (fun _ _ => rfl) hI.1.2.2.1 I2
      have k3 : ∀ k, k = 34 ∨ k = 35 → g2 k = g k := fun k hk => by
        rw [eg2, gset_kf (by omega), gset_kf (by omega), gset_kf (by omega), P.1 k (by omega) (by omega) (by omega), eg, gset_kf (by omega), gset_kf (by omega)]
        exact hT.1 k (by omega) (by omega) (by omega)
      exact ⟨g2, _, d1, I3, k3 34 (by omega), k3 35 (by omega)⟩
