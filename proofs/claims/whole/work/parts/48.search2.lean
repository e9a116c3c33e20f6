/-! search, the reference's; search and auto. Written by wip/gen/gen48.py -/
def Tg (g g1 : GI) : Prop := (∀ k, k ≠ 26 → k ≠ 30 → k ≠ 31 → k ≠ 32 → k ≠ 33 → g1 k = g k) ∧ (∀ s, s < 288 → g1 26 0 s = g 26 0 s) ∧ (∀ s, 0 ≤ s → s < 36 → g1 33 0 s = g 26 0 (288 + s)) ∧ ∀ a x y, 0 ≤ a → a < 4 → 0 ≤ x → x < 3 → 0 ≤ y → y < 3 → ¬ (a < g 8 0 5 ∧ x < g 28 0 8 ∧ y < g 28 0 8) → g1 26 0 (288 + 9 * a + 3 * x + y) = E8 g 8 a x y
theorem Tg_F {g g1 g2 : GI} (t : Tg g g1) (f : F8 g1 g2) : Tg g g2 := by
  refine ⟨fun k a b c d e => (f k b c d).trans (t.1 k a b c d e), ?_, ?_, ?_⟩
  · rw [f 26 (by decide) (by decide) (by decide)]; exact t.2.1
  · rw [f 33 (by decide) (by decide) (by decide)]; exact t.2.2.1
  · rw [f 26 (by decide) (by decide) (by decide)]; exact t.2.2.2
theorem Tg_U {g g1 g2 : GI} {b t : Int} (T : Tg g g1) (u : U8 g1 g2) (v : ∀ a x y, 0 ≤ a → a < 4 → 0 ≤ x → x < 3 → 0 ≤ y → y < 3 → g2 26 0 (288 + 9 * a + 3 * x + y) = Eto g b t a x y) : Tg g g2 := by
  refine ⟨fun k a b c d e => (u.1 k a).trans (T.1 k a b c d e), fun s hs => (u.2 s hs).trans (T.2.1 s hs), ?_, fun a x y a0 a1 b0 b1 c0 c1 w => ?_⟩
  · rw [u.1 33 (by decide)]; exact T.2.2.1
  · rw [v a x y a0 a1 b0 b1 c0 c1]; exact Et_o w
theorem Tg_found {g g1 : GI} {b t : Int} (T : Tg g g1) (v : ∀ a x y, 0 ≤ a → a < 4 → 0 ≤ x → x < 3 → 0 ≤ y → y < 3 → g1 26 0 (288 + 9 * a + 3 * x + y) = Eto g b t a x y) : FH (Etf g b t) g g1 := by
  refine ⟨⟨fun k a k26 => ?_, fun s hs => ?_⟩, fun k hk => ?_⟩
  · rw [Etf_k k26]; exact T.1 k k26 (by omega) (by omega) (by omega) (by omega)
  · by_cases e : s < 288
    · rw [Etf_o e]; exact T.2.1 s e
    · have h1 := v ((s - 288) / 9) ((s - 288) % 9 / 3) ((s - 288) % 3) (by omega) (by omega) (by omega) (by omega) (by omega) (by omega)
      rw [show 288 + 9 * ((s - 288) / 9) + 3 * ((s - 288) % 9 / 3) + (s - 288) % 3 = s by omega] at h1
      rw [h1]
      exact (cif_t ⟨rfl, rfl, by omega, by omega⟩).symm
  · unfold isM at hk
    exact T.1 k (by omega) (by omega) (by omega) (by omega) (by omega)
theorem Tg_none {g g1 : GI} (T : Tg g g1) : FH g g (gcpy g1 33 0 0 26 0 288 36) := by
  refine ⟨⟨fun k a k26 => ?_, fun s hs => ?_⟩, fun k hk => ?_⟩
  · rw [gcpy_kf k26]; exact T.1 k k26 (by omega) (by omega) (by omega) (by omega)
  · by_cases e : s < 288
    · rw [gcpy_o (by omega)]; exact T.2.1 s e
    · rw [gcpy_i (by omega) (by omega), T.2.2.1 _ (by omega) (by omega), show 288 + (0 + (s - 288)) = s by omega]
  · unfold isM at hk
    rw [gcpy_kf (by omega)]
    exact T.1 k (by omega) (by omega) (by omega) (by omega) (by omega)
section SEARCH8
variable {c : Int} {g h r g0 r0 : GI} {b : Int}
theorem l8_res {g1 : GI} (T : Tg g g1) (hS : am_St r) : ∀ (m : Nat) (k : Int), (0 ≤ k) → (k + m = 36) → Ou 172 87 [vR 8 0, vI b, vI (st8 g (g 8 0 19)), vI (tno g b), vI k] [] (gcpy g1 33 0 0 26 0 288 k) r (fun x g2 r2 => x = some (vI (-1)) ∧ r2 = r ∧ FH (Sft g b (-1)) g g2) := by
  intro m
  induction m with
  | zero =>
    intro k i0 i1
    have hk : k = 36 := by omega
    subst hk
    refine o_iload (n := 89) rfl rfl rfl ?_
    refine o_bipush (n := 91) rfl rfl ?_
    refine o_icmp_ge (n := 94) (t := 118) rfl rfl rfl (fun q91 => ?_) (fun q91 => (by exfalso; omega))
    refine o_iconst (n := 119) rfl rfl ?_
    refine o_iret rfl rfl ?_
    refine ⟨rfl, rfl, ?_⟩
    unfold Sft
    rw [cif_t rfl]
    exact Tg_none T
  | succ m ih =>
    intro k i0 i1
    refine o_iload (n := 89) rfl rfl rfl ?_
    refine o_bipush (n := 91) rfl rfl ?_
    refine o_icmp_ge (n := 94) (t := 118) rfl rfl rfl (fun q91 => (by exfalso; omega)) (fun q91 => ?_)
    refine o_aload_n (n := 95) rfl rfl rfl ?_
    refine of_8_16 (n := 98) hS rfl rfl ?_
    refine o_sipush (n := 101) rfl rfl ?_
    refine o_iload (n := 103) rfl rfl rfl ?_
    refine o_iadd (n := 104) rfl rfl (by omega) ?_
    refine o_aload_n (n := 105) rfl rfl rfl ?_
    refine of_8_24 (n := 108) hS rfl rfl ?_
    refine o_iload (n := 110) rfl rfl rfl ?_
    refine o_iald (n := 111) (L := 36) rfl rfl rfl rfl rfl (by omega) (by omega) ?_
    refine o_iast (n := 112) (L := 324) rfl rfl rfl rfl rfl (by omega) (by omega) ?_
    refine o_iinc_4 (n := 115) rfl rfl rfl (by omega) ?_
    refine o_goto (t := 87) rfl rfl ?_
    have e := gcpy_s (g := g1) (k1 := 33) (k2 := 26) (i1 := 0) (i2 := 0) (p := 0) (q := 288) (v := k) i0 (by omega)
    rw [Int.zero_add] at e
    rw [e]
    exact ih (k + 1) (by omega) (by omega)
theorem l8_try (hI : Iv c g0 g r0) (hS : am_St r) (hb0 : 1 ≤ b) (hb1 : b ≤ 9) (hT : tno g b ≤ 81920) : ∀ (m : Nat) (t : Int) (g1 : GI), (0 ≤ t) → (t + m = tno g b) → (Tg g g1) → Ou 172 52 [vR 8 0, vI b, vI (st8 g (g 8 0 19)), vI (tno g b), vI t] [] g1 r (fun x g2 r2 => x = some (vI (fi m t (fun t => FBt g b t ≠ 0) (-1))) ∧ r2 = r ∧ FH (Sft g b (fi m t (fun t => FBt g b t ≠ 0) (-1))) g g2) := by
  intro m
  induction m with
  | zero =>
    intro t g1 i0 i1 T
    obtain ⟨⟨hS0, hR, h6, hP⟩, hsg, htx, hru, hwd, hnw, hst, hsh, hla⟩ := id hI
    have m1 := hsg.1
    have m2 := hsg.2.1
    have m3 := hsg.2.2
    have n2 := hnw.2.2.1
    have eb : Br (g 27 0 8) (g 28 0 8) (Eto g b t) := Et_b hb0 hb1 hnw.2
    have t8 := T.1 8 (by decide) (by decide) (by decide) (by decide) (by decide)
    have t27 := T.1 27 (by decide) (by decide) (by decide) (by decide) (by decide)
    have t28 := T.1 28 (by decide) (by decide) (by decide) (by decide) (by decide)
    refine o_iload (n := 54) rfl rfl rfl ?_
    refine o_iload_n (n := 55) rfl rfl rfl ?_
    refine o_icmp_ge (n := 58) (t := 84) rfl rfl rfl (fun q55 => ?_) (fun q55 => (by exfalso; omega))
    refine o_iconst (n := 85) rfl rfl ?_
    refine o_istore_4 (n := 87) rfl rfl rfl ?_
    have := l8_res (b := b) T hS 36 0 (by omega) (by omega)
    rw [gcpy_0] at this
    exact this
  | succ m ih =>
    intro t g1 i0 i1 T
    obtain ⟨⟨hS0, hR, h6, hP⟩, hsg, htx, hru, hwd, hnw, hst, hsh, hla⟩ := id hI
    have m1 := hsg.1
    have m2 := hsg.2.1
    have m3 := hsg.2.2
    have n2 := hnw.2.2.1
    have eb : Br (g 27 0 8) (g 28 0 8) (Eto g b t) := Et_b hb0 hb1 hnw.2
    have t8 := T.1 8 (by decide) (by decide) (by decide) (by decide) (by decide)
    have t27 := T.1 27 (by decide) (by decide) (by decide) (by decide) (by decide)
    have t28 := T.1 28 (by decide) (by decide) (by decide) (by decide) (by decide)
    refine o_iload (n := 54) rfl rfl rfl ?_
    refine o_iload_n (n := 55) rfl rfl rfl ?_
    refine o_icmp_ge (n := 58) (t := 84) rfl rfl rfl (fun q55 => (by exfalso; omega)) (fun q55 => ?_)
    refine o_aload_n (n := 59) rfl rfl rfl ?_
    refine o_iload_n (n := 60) rfl rfl rfl ?_
    refine o_iload (n := 62) rfl rfl rfl ?_
    obtain ⟨v2, g2, r2, hc, e1, e2, u2, V2⟩ := rt_ex (c8_tells0 (g := g1) (m := g 8 0 5) (n := g 28 0 8) (ρ := g 27 0 8) (b := b) (t := t) (E := E8 g 8) hS (by omega) (by omega) (by omega) (by omega) (by rw [t8]) (by rw [t27]) (by rw [t28]) hb0 hb1 (by omega) T.2.2.2 (by omega))
    subst e1
    subst e2
    have T2 := Tg_U (b := b) (t := t) T u2 V2
    refine o_invv (n := 65) rfl rfl rfl rfl rfl rfl rfl rfl rfl rfl (hc) ?_
    refine o_aload_n (n := 66) rfl rfl rfl ?_
    refine o_bipush (n := 68) rfl rfl ?_
    refine o_iload_n (n := 69) rfl rfl rfl ?_
    have s8 := T2.1 8 (by decide) (by decide) (by decide) (by decide) (by decide)
    have s22 := T2.1 22 (by decide) (by decide) (by decide) (by decide) (by decide)
    have s23 := T2.1 23 (by decide) (by decide) (by decide) (by decide) (by decide)
    have s27 := T2.1 27 (by decide) (by decide) (by decide) (by decide) (by decide)
    have s28 := T2.1 28 (by decide) (by decide) (by decide) (by decide) (by decide)
    have hU : Vu8 g2 (g 8 0 8) (L8 g) (W8 g) := by
      have := Vu8_E (h := g) hru.2.1.1.1
      unfold Vu8 Vw at this ⊢
      rw [s8, s22, s23]; exact this
    have hV : Vr8 g2 8 (g 27 0 8) (g 28 0 8) (Eto g b t) := by
      refine ⟨by rw [s27], by rw [s28], fun s z y a0 a1 b0 b1 c0 c1 => ?_⟩
      rw [show 36 * 8 + 9 * s + 3 * z + y = 288 + 9 * s + 3 * z + y by omega]; exact V2 s z y a0 a1 b0 b1 c0 c1
    obtain ⟨v3, g3, r3, hc3, e1, e2, f3⟩ := rt_ex (c8_falling (m := g 8 0 5) hS (d := 8) (by omega) (by omega) eb hV hru.2.1 hU (st8 g (g 8 0 19)) (by omega) (by omega) (by rw [s8]))
    subst e1
    subst e2
    have hc3 : Rt 141 [vR 8 0, vI 8, vI (st8 g (g 8 0 19))] g2 r3 (some (vI (FBt g b t))) g3 r3 := hc3
    have T3 := Tg_F T2 f3
    refine o_invi (n := 72) rfl rfl rfl rfl rfl rfl rfl rfl rfl rfl (hc3) ?_
    refine o_if_eq (n := 75) (t := 78) rfl rfl rfl (fun q72 => ?_) (fun q72 => ?_)
    · refine o_iinc_4 (n := 81) rfl rfl rfl (by omega) ?_
      refine o_goto (t := 52) rfl rfl ?_
      have hz : FBt g b t = 0 := by omega
      rw [fi_f (p := fun t => FBt g b t ≠ 0) (fun z => z hz)]
      exact ih (t + 1) _ (by omega) (by omega) T3
    · refine o_iload (n := 77) rfl rfl rfl ?_
      refine o_iret rfl rfl ?_
      have hz : FBt g b t ≠ 0 := by omega
      rw [fi_t (p := fun t => FBt g b t ≠ 0) hz]
      refine ⟨rfl, rfl, ?_⟩
      unfold Sft
      rw [cif_f (by omega)]
      refine Tg_found T3 (fun a x y a0 a1 b0 b1 c0 c1 => ?_)
      rw [f3 26 (by decide) (by decide) (by decide)]
      exact V2 a x y a0 a1 b0 b1 c0 c1
theorem l8_bef (hI : Iv c g0 g r0) (hS : am_St r) (hb0 : 1 ≤ b) (hb1 : b ≤ 9) (hT0 : 0 ≤ tno g b) (hT : tno g b ≤ 81920) : ∀ (m : Nat) (k : Int), (0 ≤ k) → (k + m = 36) → Ou 172 18 [vR 8 0, vI b, vI (st8 g (g 8 0 19)), vI (tno g b), vI k] [] (gcpy g 26 0 288 33 0 0 k) r (fun x g2 r2 => x = some (vI (sef g b)) ∧ r2 = r ∧ FH (Sft g b (sef g b)) g g2) := by
  intro m
  induction m with
  | zero =>
    intro k i0 i1
    have hk : k = 36 := by omega
    subst hk
    refine o_iload (n := 20) rfl rfl rfl ?_
    refine o_bipush (n := 22) rfl rfl ?_
    refine o_icmp_ge (n := 25) (t := 49) rfl rfl rfl (fun q22 => ?_) (fun q22 => (by exfalso; omega))
    refine o_iconst (n := 50) rfl rfl ?_
    refine o_istore_4 (n := 52) rfl rfl rfl ?_
    refine l8_try hI hS hb0 hb1 hT (tno g b).toNat 0 _ (by omega) (by omega) ⟨fun k _ _ _ _ e => gcpy_kf e, fun s hs => by rw [gcpy_kf (by decide)], fun s s0 s1 => ?_, fun a x y a0 a1 b0 b1 c0 c1 w => ?_⟩
    · rw [gcpy_i (by omega) (by omega), show 288 + (s - 0) = 288 + s by omega]
    · rw [gcpy_kf (by decide), E8_i a0 a1 b0 b1 c0 c1, show (36 : Int) * 8 = 288 from rfl]
  | succ m ih =>
    intro k i0 i1
    refine o_iload (n := 20) rfl rfl rfl ?_
    refine o_bipush (n := 22) rfl rfl ?_
    refine o_icmp_ge (n := 25) (t := 49) rfl rfl rfl (fun q22 => (by exfalso; omega)) (fun q22 => ?_)
    refine o_aload_n (n := 26) rfl rfl rfl ?_
    refine of_8_24 (n := 29) hS rfl rfl ?_
    refine o_iload (n := 31) rfl rfl rfl ?_
    refine o_aload_n (n := 32) rfl rfl rfl ?_
    refine of_8_16 (n := 35) hS rfl rfl ?_
    refine o_sipush (n := 38) rfl rfl ?_
    refine o_iload (n := 40) rfl rfl rfl ?_
    refine o_iadd (n := 41) rfl rfl (by omega) ?_
    refine o_iald (n := 42) (L := 324) rfl rfl rfl rfl rfl (by omega) (by omega) ?_
    refine o_iast (n := 43) (L := 36) rfl rfl rfl rfl rfl (by omega) (by omega) ?_
    refine o_iinc_4 (n := 46) rfl rfl rfl (by omega) ?_
    refine o_goto (t := 18) rfl rfl ?_
    have e := gcpy_s (g := g) (k1 := 26) (k2 := 33) (i1 := 0) (i2 := 0) (p := 288) (q := 0) (v := k) i0 (by omega)
    rw [Int.zero_add] at e
    rw [e]
    exact ih (k + 1) (by omega) (by omega)
theorem c8_searchBy (hI : Iv c g0 g r0) (hS : am_St r) (hb0 : 1 ≤ b) (hb1 : b ≤ 9) (hT0 : 0 ≤ tno g b) (hT : tno g b ≤ 81920) : Ou 172 0 (am_ini 172 [vR 8 0, vI b]) [] g r (fun x g2 r2 => x = some (vI (sef g b)) ∧ r2 = r ∧ FH (Sft g b (sef g b)) g g2) := by
  show Ou 172 0 [vR 8 0, vI b, vN, vN, vN] [] g r _
  obtain ⟨⟨hS0, hR, h6, hP⟩, hsg, htx, hru, hwd, hnw, hst, hsh, hla⟩ := id hI
  have m1 := hsg.1
  have m2 := hsg.2.1
  have m3 := hsg.2.2
  have n2 := hnw.2.2.1
  have r8 := hru.2.1.1
  have s1 := hst.2.1
  have s2 := hst.2.2.1
  refine o_aload_n (n := 1) rfl rfl rfl ?_
  refine o_aload_n (n := 2) rfl rfl rfl ?_
  refine o_geti (n := 5) rfl rfl rfl rfl rfl ?_
  refine o_invi (n := 8) rfl rfl rfl rfl rfl rfl rfl rfl rfl rfl (c8_leftBehind hS (by omega) (by omega) _ (by omega) (by omega)) ?_
  refine o_istore_2 (n := 9) rfl rfl rfl ?_
  refine o_aload_n (n := 10) rfl rfl rfl ?_
  refine o_iload_n (n := 11) rfl rfl rfl ?_
  refine o_invi (n := 14) rfl rfl rfl rfl rfl rfl rfl rfl rfl rfl (c8_triesOf hS _ (by omega) (by omega) (by omega) (by omega) (by omega) (by omega)) ?_
  change Ou _ _ _ (vI (tno g b) :: _) _ _ _
  refine o_istore_3 (n := 15) rfl rfl rfl ?_
  refine o_iconst (n := 16) rfl rfl ?_
  refine o_istore_4 (n := 18) rfl rfl rfl ?_
  have := l8_bef hI hS hb0 hb1 hT0 hT 36 0 (by omega) (by omega)
  rw [gcpy_0] at this
  exact this
end SEARCH8
