/-! a rule put into the word. Written by wip/gen/gen55.py -/
def llr (h : GI) (i : Int) : Int := h 23 0 (2 * i)
def lrr (h : GI) (i : Int) : Int := h 23 0 (2 * i + 1)
def PuF (h : GI) (i j : Int) : GI := gset (gset (gset (gcpy (gcpy h 25 0 (j + llr h i) 25 0 (j + lrr h i) (h 8 0 14 - (j + llr h i))) 22 0 (12 * i + 6) 25 0 j (lrr h i)) 8 0 14 (h 8 0 14 + (lrr h i - llr h i))) 24 0 i (h 24 0 i + 1)) 8 0 15 (h 8 0 15 + 1)
def PuG (g : GI) (q j : Int) : GI := gset (gset (gset (gcpy (gcpy g 10 0 (j + g 1 (1 + 2 * q) 1) 10 0 (j + g 1 (2 + 2 * q) 1) (g 1 0 1 - (j + g 1 (1 + 2 * q) 1))) 10 (2 + 2 * q) 0 10 0 j (g 1 (2 + 2 * q) 1)) 1 0 1 (g 1 0 1 + (g 1 (2 + 2 * q) 1 - g 1 (1 + 2 * q) 1))) 2 q 3 (g 2 q 3 + 1)) 7 0 12 (g 7 0 12 + 1)
theorem PuF_k {h : GI} {i j : Int} {k : Nat} (a : k ≠ 8) (b : k ≠ 24) (d : k ≠ 25) : PuF h i j k = h k := by
  unfold PuF
  rw [gset_kf a, gset_kf b, gset_kf a, gcpy_kf d, gcpy_kf d]
theorem PuF_8 {h : GI} {i j s : Int} (a : s ≠ 14) (b : s ≠ 15) : PuF h i j 8 0 s = h 8 0 s := by
  unfold PuF
  rw [gset_s b, gset_k rfl, gset_s a, gcpy_kf (by decide), gcpy_kf (by decide)]
theorem PuF_14 {h : GI} {i j : Int} : PuF h i j 8 0 14 = h 8 0 14 + (lrr h i - llr h i) := by
  unfold PuF
  rw [gset_s (by decide), gset_k rfl, gset_at]
theorem PuF_15 {h : GI} {i j : Int} : PuF h i j 8 0 15 = h 8 0 15 + 1 := gset_at
theorem PuF_24 {h : GI} {i j s : Int} : PuF h i j 24 0 s = cif (s = i) (h 24 0 i + 1) (h 24 0 s) := by
  unfold PuF
  by_cases e : s = i
  · rw [cif_t e, e, gset_k rfl, gset_at]
  · rw [cif_f e, gset_k rfl, gset_s e, gset_k rfl, gcpy_kf (by decide), gcpy_kf (by decide)]
theorem PuF_25 {h : GI} {i j : Int} : PuF h i j 25 = gcpy (gcpy h 25 0 (j + llr h i) 25 0 (j + lrr h i) (h 8 0 14 - (j + llr h i))) 22 0 (12 * i + 6) 25 0 j (lrr h i) 25 := by
  unfold PuF
  rw [gset_kf (by decide), gset_kf (by decide), gset_kf (by decide)]
theorem PuG_k {g : GI} {q j : Int} {k : Nat} (a : k ≠ 1) (b : k ≠ 2) (d : k ≠ 7) (e : k ≠ 10) : PuG g q j k = g k := by
  unfold PuG
  rw [gset_kf d, gset_kf b, gset_kf a, gcpy_kf e, gcpy_kf e]
theorem PuG_7 {g : GI} {q j s : Int} (a : s ≠ 12) : PuG g q j 7 0 s = g 7 0 s := by
  unfold PuG
  rw [gset_s a, gset_k rfl, gset_k rfl, gcpy_kf (by decide), gcpy_kf (by decide)]
theorem PuG_1 {g : GI} {q j i s : Int} (a : i ≠ 0) : PuG g q j 1 i s = g 1 i s := by
  unfold PuG
  rw [gset_k rfl, gset_k rfl, gset_i a, gcpy_kf (by decide), gcpy_kf (by decide)]
theorem PuG_10 {g : GI} {q j i s : Int} (a : i ≠ 0) : PuG g q j 10 i s = g 10 i s := by
  unfold PuG
  rw [gset_k rfl, gset_k rfl, gset_k rfl, gcpy_ni a, gcpy_ni a]
theorem PuG_100 {g : GI} {q j : Int} : PuG g q j 10 = gcpy (gcpy g 10 0 (j + g 1 (1 + 2 * q) 1) 10 0 (j + g 1 (2 + 2 * q) 1) (g 1 0 1 - (j + g 1 (1 + 2 * q) 1))) 10 (2 + 2 * q) 0 10 0 j (g 1 (2 + 2 * q) 1) 10 := by
  unfold PuG
  rw [gset_kf (by decide), gset_kf (by decide), gset_kf (by decide)]
theorem PuG_2 {g : GI} {q j i s : Int} (a : i ≠ q ∨ s ≠ 3) : PuG g q j 2 i s = g 2 i s := by
  unfold PuG
  rw [gset_k rfl]
  rcases a with a | a
  · rw [gset_i a, gset_k rfl, gcpy_kf (by decide), gcpy_kf (by decide)]
  · rw [gset_s a, gset_k rfl, gcpy_kf (by decide), gcpy_kf (by decide)]
theorem PuG_23 {g : GI} {q j : Int} : PuG g q j 2 q 3 = g 2 q 3 + 1 := by
  unfold PuG
  rw [gset_k rfl, gset_at]
section PUT
variable {c : Int} {g h r g0 r0 : GI} {i j : Int}
theorem Iv_put (hI : Iv c g h r) (i0 : 0 ≤ i) (i1 : i < h 8 0 8) (j0 : 0 ≤ j) (j1 : j + llr h i ≤ h 8 0 14) (l1 : h 8 0 14 + (lrr h i - llr h i) ≤ 24) (u1 : h 24 0 i + 1 ≤ 40 * c) (s1 : h 8 0 15 + 1 ≤ 40 * c) : Iv c (PuG g (r 14 0 i) j) (PuF h i j) r := by
  obtain ⟨⟨hS, hR, h6, hP⟩, hsg, htx, hru, hwd, hnw, hst, hsh, hla⟩ := hI
  have R8 := hru.2.1.1
  have hri := hR.1 i i0 (by omega)
  have hsl := ru_s hru i0 i1 (Or.inl rfl)
  have hsr := ru_s hru i0 i1 (Or.inr rfl)
  rw [Int.add_zero, Int.add_zero] at hsl
  rw [show 1 + 2 * r 14 0 i + 1 = 2 + 2 * r 14 0 i by omega] at hsr
  have hbr := ru_b hru i0 i1 (Or.inr rfl)
  have w0 : g 1 0 1 = h 8 0 14 := hwd.1.1
  have wl : ∀ k, 0 ≤ k → k < h 8 0 14 → g 10 0 k = h 25 0 k := hwd.1.2
  have wb := hwd.2.1
  have el : g 1 (1 + 2 * r 14 0 i) 1 = llr h i := hsl.1
  have er : g 1 (2 + 2 * r 14 0 i) 1 = lrr h i := hsr.1
  have bl : 0 ≤ llr h i ∧ llr h i ≤ 6 := hsl.2.1
  have br : 0 ≤ lrr h i ∧ lrr h i ≤ 6 := hsr.2.1
  have H : ∀ k, k ≠ 8 → k ≠ 24 → k ≠ 25 → PuF h i j k = h k := fun k a b d => PuF_k a b d
  have G : ∀ k, k ≠ 1 → k ≠ 2 → k ≠ 7 → k ≠ 10 → PuG g (r 14 0 i) j k = g k := fun k a b d e => PuG_k a b d e
  have key : ∀ k, 0 ≤ k → k < h 8 0 14 + (lrr h i - llr h i) → PuG g (r 14 0 i) j 10 0 k = PuF h i j 25 0 k ∧ (0 ≤ PuF h i j 25 0 k ∧ PuF h i j 25 0 k < 4) := fun k k0 k1 => by
    rw [PuG_100, PuF_25, el, er, w0]
    by_cases a : j ≤ k ∧ k < j + lrr h i
    · rw [gcpy_i a.1 a.2, gcpy_i a.1 a.2, gcpy_ni (show (2 + 2 * r 14 0 i) ≠ 0 by omega), gcpy_kf (by decide)]
      have e1 := hsr.2.2 (k - j) (by omega) (by show k - j < lrr h i; omega)
      have e2 := hbr.2 (k - j) (by omega) (by show k - j < lrr h i; omega)
      unfold wsd at e2
      rw [show 6 * (2 * i + 1) + (k - j) = 12 * i + 6 + (k - j) by omega] at e1 e2
      rw [show 0 + (k - j) = k - j by omega, e1]
      exact ⟨rfl, e2⟩
    · rw [gcpy_o (q := j) (v := lrr h i) (by omega), gcpy_o (q := j) (v := lrr h i) (by omega)]
      by_cases b : j + lrr h i ≤ k
      · rw [gcpy_i (v := h 8 0 14 - (j + llr h i)) b (by omega), gcpy_i (v := h 8 0 14 - (j + llr h i)) b (by omega)]
        have e1 := wl (j + llr h i + (k - (j + lrr h i))) (by omega) (by omega)
        exact ⟨e1, wb.2 _ (by omega) (by omega)⟩
      · rw [gcpy_o (q := j + lrr h i) (v := h 8 0 14 - (j + llr h i)) (by omega), gcpy_o (q := j + lrr h i) (v := h 8 0 14 - (j + llr h i)) (by omega)]
        exact ⟨wl k k0 (by omega), wb.2 k k0 (by omega)⟩
  refine ⟨⟨hS, hR, h6, hP⟩, Isg_c (g := g) (h := h) (PuG_7 (by decide)) (PuF_8 (by decide) (by decide)) hsg, Itx_c (g := g) (h := h) (by rw [G 5 (by decide) (by decide) (by decide) (by decide)]) (PuF_8 (by decide) (by decide)) (by rw [G 12 (by decide) (by decide) (by decide) (by decide)]) (by rw [H 21 (by decide) (by decide) (by decide)]) htx, ?_, ?_,
    Inw_c (g := g) (h := h) (by rw [G 0 (by decide) (by decide) (by decide) (by decide)]) (by rw [G 9 (by decide) (by decide) (by decide) (by decide)]) (by rw [H 27 (by decide) (by decide) (by decide)]) (by rw [H 28 (by decide) (by decide) (by decide)]) (fun s a b => by rw [H 26 (by decide) (by decide) (by decide)]) hnw,
    Ist_c (g := g) (h := h) (r := r) hR (PuG_7 (by decide)) (G 4 (by decide) (by decide) (by decide) (by decide)) (fun q s z => by rw [G 0 (by decide) (by decide) (by decide) (by decide)]) (fun q s z => by rw [G 9 (by decide) (by decide) (by decide) (by decide)]) (PuF_8 (by decide) (by decide)) (PuF_8 (by decide) (by decide)) (PuF_8 (by decide) (by decide)) (by rw [H 29 (by decide) (by decide) (by decide)]) (fun k _ => by rw [H 27 (by decide) (by decide) (by decide)]) (fun k _ => by rw [H 28 (by decide) (by decide) (by decide)]) (fun s hs => by rw [H 26 (by decide) (by decide) (by decide)]) (by rw [H 22 (by decide) (by decide) (by decide)]) (by rw [H 23 (by decide) (by decide) (by decide)]) rfl hst,
    Ish_c (g := g) (h := h) (G 3 (by decide) (by decide) (by decide) (by decide)) (G 11 (by decide) (by decide) (by decide) (by decide)) (by rw [H 17 (by decide) (by decide) (by decide)]) (by rw [H 18 (by decide) (by decide) (by decide)]) (by rw [H 19 (by decide) (by decide) (by decide)]) hsh, Ila_c (g := g) (h := h) (PuG_7 (by decide)) (PuF_8 (by decide) (by decide)) hla⟩
  · obtain ⟨⟨v0, v1⟩, v2, v3⟩ := hru
    unfold Iru Vu7
    rw [L8_c (h := h) (by rw [H 23 (by decide) (by decide) (by decide)]), W8_c (h := h) (by rw [H 22 (by decide) (by decide) (by decide)]), PuF_8 (by decide) (by decide), PuF_8 (by decide) (by decide), PuG_7 (by decide)]
    refine ⟨⟨v0, fun k k0 k1 => ?_⟩, v2, fun k k0 k1 => ?_⟩
    · have hk := hR.1 k k0 (by omega)
      have := v1 k k0 k1
      unfold Vw7 at this ⊢
      rw [PuG_1 (by omega), PuG_1 (by omega)]
      refine ⟨⟨this.1.1, fun s s0 s1 => ?_⟩, this.2.1, fun s s0 s1 => ?_⟩
      · rw [PuG_10 (by omega)]; exact this.1.2 s s0 s1
      · rw [PuG_10 (by omega)]; exact this.2.2 s s0 s1
    · have w := v3 k k0 k1
      rw [PuG_2 (s := 2) (Or.inr (by decide)), PuF_24]
      by_cases e : k = i
      · subst e
        rw [PuG_23, cif_t rfl]
        exact ⟨by omega, ⟨by omega, u1⟩, w.2.2⟩
      · rw [cif_f e, PuG_2 (Or.inl (fun z => e (hP.1 k i k0 (by omega) i0 (by omega) z)))]
        exact w
  · have hw := hwd.2.2
    unfold Iwd Vw7 Bw
    rw [PuF_14, PuF_15]
    refine ⟨⟨?_, fun k k0 k1 => (key k k0 k1).1⟩, ⟨⟨by omega, l1⟩, fun k k0 k1 => (key k k0 k1).2⟩, ?_, by omega, s1⟩
    · unfold PuG
      rw [gset_k rfl, gset_k rfl, gset_at, el, er, w0]
    · show PuG g (r 14 0 i) j 7 0 12 = _
      unfold PuG
      rw [gset_at]; omega
theorem PuF_c {h1 : GI} (j1 : 0 ≤ j) (A : Ag h h1) : Ag (PuF h i j) (PuF h1 i j) := by
  have e8 := A.1 8 (by omega) (by decide)
  have e22 := A.1 22 (by omega) (by decide)
  have e23 := A.1 23 (by omega) (by decide)
  have e24 := A.1 24 (by omega) (by decide)
  have e25 := A.1 25 (by omega) (by decide)
  refine ⟨fun k hk k26 => ?_, fun s hs => ?_⟩
  · have ek := A.1 k hk k26
    funext i' s
    unfold PuF llr lrr
    rw [e8, e23, e24]
    unfold gset gcpy
    rw [e22, e25, ek]
  · rw [PuF_k (by decide) (by decide) (by decide), PuF_k (by decide) (by decide) (by decide)]; exact A.2 s hs
theorem PuF_M {k : Nat} (hk : ¬ isM k) : PuF h i j k = h k := PuF_k (by unfold isM at hk; omega) (by unfold isM at hk; omega) (by unfold isM at hk; omega)
theorem Fm_P {q : Int} : Fm g (PuG g q j) := fun k hk => PuG_k (by unfold isM at hk; omega) (by unfold isM at hk; omega) (by unfold isM at hk; omega) (by unfold isM at hk; omega)
end PUT
section REPL
variable {g r : GI}
theorem c1_replace (hS : am_St r) {q j ll : Int} (q0 : 1 ≤ q) (q1 : q < 17) (j0 : 0 ≤ j) (l0 : 0 ≤ ll) (h1 : j + ll ≤ g 1 0 1) (w : g 1 0 1 ≤ 24) (r0 : 0 ≤ g 1 q 1) (r1 : g 1 q 1 ≤ 6) (l6 : ll ≤ 24) (n1 : g 1 0 1 - ll + g 1 q 1 ≤ 24) : Rt 18 [vR 1 0, vI j, vI ll, vR 1 q] g r none (gset (gcpy (gcpy g 10 0 (j + ll) 10 0 (j + g 1 q 1) (g 1 0 1 - (j + ll))) 10 q 0 10 0 j (g 1 q 1)) 1 0 1 (g 1 0 1 + (g 1 q 1 - ll))) r := by
  refine rt_of ?_
  show Ou 18 0 [vR 1 0, vI j, vI ll, vR 1 q, vN] [] g r _
  have al0 : am_al 10 0 = 24 := rfl
  have alq : am_al 10 q = 6 := al10 q0
  refine o_iload_n (n := 1) rfl rfl rfl ?_
  refine o_iload_n (n := 2) rfl rfl rfl ?_
  refine o_iadd (n := 3) rfl rfl (by omega) ?_
  refine o_istore_4 (n := 5) rfl rfl rfl ?_
  refine o_aload_n (n := 6) rfl rfl rfl ?_
  refine of_1_0 (n := 9) hS rfl rfl (by omega) (by omega) ?_
  refine o_iload (n := 11) rfl rfl rfl ?_
  refine o_aload_n (n := 12) rfl rfl rfl ?_
  refine of_1_0 (n := 15) hS rfl rfl (by omega) (by omega) ?_
  refine o_iload_n (n := 16) rfl rfl rfl ?_
  refine o_aload_n (n := 17) rfl rfl rfl ?_
  refine o_geti (n := 20) rfl rfl rfl (ok_1 (by omega) (by omega)) rfl ?_
  refine o_iadd (n := 21) rfl rfl (by omega) ?_
  refine o_aload_n (n := 22) rfl rfl rfl ?_
  refine o_geti (n := 25) rfl rfl rfl (ok_1 (by omega) (by omega)) rfl ?_
  refine o_iload (n := 27) rfl rfl rfl ?_
  refine o_isub (n := 28) rfl rfl (by omega) ?_
  refine o_acopy (n := 31) rfl rfl (ok_10 (by omega) (by omega)) (ok_10 (by omega) (by omega)) rfl rfl rfl rfl (by omega) (by omega) (by omega) (by omega) (by omega) rfl ?_
  refine o_aload_n (n := 32) rfl rfl rfl ?_
  refine of_1_0 (n := 35) hS rfl rfl (by omega) (by omega) ?_
  refine o_iconst (n := 36) rfl rfl ?_
  refine o_aload_n (n := 37) rfl rfl rfl ?_
  refine of_1_0 (n := 40) hS rfl rfl (by omega) (by omega) ?_
  refine o_iload_n (n := 41) rfl rfl rfl ?_
  refine o_aload_n (n := 42) rfl rfl rfl ?_
  refine o_geti (n := 45) rfl rfl rfl (ok_1 (by omega) (by omega)) rfl ?_
  rw [gcpy_kf (by decide)]
  refine o_acopy (n := 48) rfl rfl (ok_10 (by omega) (by omega)) (ok_10 (by omega) (by omega)) rfl rfl rfl rfl (by omega) (by omega) (by omega) (by omega) (by omega) rfl ?_
  refine o_aload_n (n := 49) rfl rfl rfl ?_
  refine o_dup (n := 50) rfl rfl rfl ?_
  refine o_geti (n := 53) rfl rfl rfl (ok_1 (by omega) (by omega)) rfl ?_
  rw [gcpy_kf (by decide), gcpy_kf (by decide)]
  refine o_aload_n (n := 54) rfl rfl rfl ?_
  refine o_geti (n := 57) rfl rfl rfl (ok_1 (by omega) (by omega)) rfl ?_
  rw [gcpy_kf (by decide), gcpy_kf (by decide)]
  refine o_iload_n (n := 58) rfl rfl rfl ?_
  refine o_isub (n := 59) rfl rfl (by omega) ?_
  refine o_iadd (n := 60) rfl rfl (by omega) ?_
  refine o_puti (n := 63) rfl rfl rfl (ok_1 (by omega) (by omega)) rfl ?_
  refine o_vret rfl ?_
  first | (exfalso; omega; done) | exact ⟨rfl, rfl, rfl⟩
theorem c7_stepBy0 (hS : am_St r) (hR : am_Rg r) {i j : Int} (i0 : 0 ≤ i) (i1 : i < 8) (l0 : 0 ≤ g 1 (1 + 2 * r 14 0 i) 1) (l6 : g 1 (1 + 2 * r 14 0 i) 1 ≤ 6) (r0 : 0 ≤ g 1 (2 + 2 * r 14 0 i) 1) (r6 : g 1 (2 + 2 * r 14 0 i) 1 ≤ 6) (j0 : 0 ≤ j) (h1 : j + g 1 (1 + 2 * r 14 0 i) 1 ≤ g 1 0 1) (w : g 1 0 1 ≤ 24) (n1 : g 1 0 1 - g 1 (1 + 2 * r 14 0 i) 1 + g 1 (2 + 2 * r 14 0 i) 1 ≤ 24) (u0 : 0 ≤ g 2 (r 14 0 i) 3) (u1 : g 2 (r 14 0 i) 3 ≤ 1000000) (s0 : 0 ≤ g 7 0 12) (s1 : g 7 0 12 ≤ 1000000) : Rt 106 [vR 7 0, vI i, vI j] g r (some (vI i)) (PuG g (r 14 0 i) j) r := by
  refine rt_of ?_
  show Ou 106 0 [vR 7 0, vI i, vI j, vN] [] g r _
  refine o_aload_n (n := 1) rfl rfl rfl ?_
  refine of_7_2 (n := 4) hS rfl rfl ?_
  refine o_iload_n (n := 5) rfl rfl rfl ?_
  refine o_ra14 (n := 6) hR rfl rfl (by omega) (by omega) (fun hA5 hB5 => ?_)
  refine o_astore_3 (n := 7) rfl rfl rfl ?_
  refine o_aload_n (n := 8) rfl rfl rfl ?_
  refine of_7_1 (n := 11) hS rfl rfl ?_
  refine o_geti (n := 14) rfl rfl rfl (ok_1 (by omega) (by omega)) rfl ?_
  refine o_aload_n (n := 15) rfl rfl rfl ?_
  refine of_2_0 (n := 18) hS rfl rfl (by omega) (by omega) ?_
  refine o_geti (n := 21) rfl rfl rfl (ok_1 (by omega) (by omega)) rfl ?_
  refine o_isub (n := 22) rfl rfl (by omega) ?_
  refine o_aload_n (n := 23) rfl rfl rfl ?_
  refine of_2_1 (n := 26) hS rfl rfl (by omega) (by omega) ?_
  refine o_geti (n := 29) rfl rfl rfl (ok_1 (by omega) (by omega)) rfl ?_
  refine o_iadd (n := 30) rfl rfl (by omega) ?_
  refine o_bipush (n := 32) rfl rfl ?_
  refine o_icmp_le (n := 35) (t := 38) rfl rfl rfl (fun h32 => ?_) (fun h32 => (by exfalso; omega))
  refine o_aload_n (n := 39) rfl rfl rfl ?_
  refine of_7_1 (n := 42) hS rfl rfl ?_
  refine o_iload_n (n := 43) rfl rfl rfl ?_
  refine o_aload_n (n := 44) rfl rfl rfl ?_
  refine of_2_0 (n := 47) hS rfl rfl (by omega) (by omega) ?_
  refine o_geti (n := 50) rfl rfl rfl (ok_1 (by omega) (by omega)) rfl ?_
  refine o_aload_n (n := 51) rfl rfl rfl ?_
  refine of_2_1 (n := 54) hS rfl rfl (by omega) (by omega) ?_
  refine o_invv (n := 57) rfl rfl rfl rfl rfl rfl rfl rfl rfl (ok_1 (by omega) (by omega)) (c1_replace hS (by omega) (by omega) (by omega) (by omega) (by omega) (by omega) (by omega) (by omega) (by omega) (by omega)) ?_
  refine o_aload_n (n := 58) rfl rfl rfl ?_
  refine o_dup (n := 59) rfl rfl rfl ?_
  refine o_geti (n := 62) rfl rfl rfl (ok_2 (by omega) (by omega)) rfl ?_
  rw [gset_k rfl, gcpy_kf (by decide), gcpy_kf (by decide)]
  refine o_iconst (n := 63) rfl rfl ?_
  refine o_iadd (n := 64) rfl rfl (by omega) ?_
  refine o_puti (n := 67) rfl rfl rfl (ok_2 (by omega) (by omega)) rfl ?_
  refine o_aload_n (n := 68) rfl rfl rfl ?_
  refine o_dup (n := 69) rfl rfl rfl ?_
  refine o_geti (n := 72) rfl rfl rfl rfl rfl ?_
  rw [gset_k rfl, gset_k rfl, gcpy_kf (by decide), gcpy_kf (by decide)]
  refine o_iconst (n := 73) rfl rfl ?_
  refine o_iadd (n := 74) rfl rfl (by omega) ?_
  refine o_puti (n := 77) rfl rfl rfl rfl rfl ?_
  refine o_iload_n (n := 78) rfl rfl rfl ?_
  refine o_iret rfl rfl ?_
  first | (exfalso; omega; done) | exact ⟨rfl, rfl, rfl⟩
theorem c7_stepBy4 (hS : am_St r) (hR : am_Rg r) {i j : Int} (i0 : 0 ≤ i) (i1 : i < 8) (l0 : 0 ≤ g 1 (1 + 2 * r 14 0 i) 1) (l6 : g 1 (1 + 2 * r 14 0 i) 1 ≤ 6) (r0 : 0 ≤ g 1 (2 + 2 * r 14 0 i) 1) (r6 : g 1 (2 + 2 * r 14 0 i) 1 ≤ 6) (w0 : 0 ≤ g 1 0 1) (w : g 1 0 1 ≤ 24) (n1 : 24 < g 1 0 1 - g 1 (1 + 2 * r 14 0 i) 1 + g 1 (2 + 2 * r 14 0 i) 1) : Rt 106 [vR 7 0, vI i, vI j] g r (some (vI (-4))) g r := by
  refine rt_of ?_
  show Ou 106 0 [vR 7 0, vI i, vI j, vN] [] g r _
  refine o_aload_n (n := 1) rfl rfl rfl ?_
  refine of_7_2 (n := 4) hS rfl rfl ?_
  refine o_iload_n (n := 5) rfl rfl rfl ?_
  refine o_ra14 (n := 6) hR rfl rfl (by omega) (by omega) (fun hA5 hB5 => ?_)
  refine o_astore_3 (n := 7) rfl rfl rfl ?_
  refine o_aload_n (n := 8) rfl rfl rfl ?_
  refine of_7_1 (n := 11) hS rfl rfl ?_
  refine o_geti (n := 14) rfl rfl rfl (ok_1 (by omega) (by omega)) rfl ?_
  refine o_aload_n (n := 15) rfl rfl rfl ?_
  refine of_2_0 (n := 18) hS rfl rfl (by omega) (by omega) ?_
  refine o_geti (n := 21) rfl rfl rfl (ok_1 (by omega) (by omega)) rfl ?_
  refine o_isub (n := 22) rfl rfl (by omega) ?_
  refine o_aload_n (n := 23) rfl rfl rfl ?_
  refine of_2_1 (n := 26) hS rfl rfl (by omega) (by omega) ?_
  refine o_geti (n := 29) rfl rfl rfl (ok_1 (by omega) (by omega)) rfl ?_
  refine o_iadd (n := 30) rfl rfl (by omega) ?_
  refine o_bipush (n := 32) rfl rfl ?_
  refine o_icmp_le (n := 35) (t := 38) rfl rfl rfl (fun h32 => (by exfalso; omega)) (fun h32 => ?_)
  refine o_bipush (n := 37) rfl rfl ?_
  refine o_iret rfl rfl ?_
  first | (exfalso; omega; done) | exact ⟨rfl, rfl, rfl⟩
end REPL
