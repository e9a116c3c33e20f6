/-! word. Written by wip/gen/gen58.py -/
/-- signs poured out of the text -/
noncomputable def prf (g : GI) (q a l n : Int) : GI := fun k i s => cif (k = 10 ∧ i = q ∧ l ≤ s ∧ s < l + n) (g 12 0 (a + (s - l)) - 97) (cif (k = 1 ∧ i = q ∧ s = 1) (l + n) (g k i s))
theorem prf_0 {g : GI} {q a : Int} : prf g q a (g 1 q 1) 0 = g := by
  funext k i s
  unfold prf
  rw [cif_f (by omega)]
  by_cases e : k = 1 ∧ i = q ∧ s = 1
  · rw [cif_t e, e.1, e.2.1, e.2.2, Int.add_zero]
  · rw [cif_f e]
theorem prf_k {g : GI} {q a l n : Int} {k : Nat} (x : k ≠ 1) (y : k ≠ 10) : prf g q a l n k = g k := by
  funext i s
  unfold prf
  rw [cif_f (fun z => y z.1), cif_f (fun z => x z.1)]
theorem prf_o {g : GI} {q a l n i s : Int} {k : Nat} (x : i ≠ q) : prf g q a l n k i s = g k i s := by
  unfold prf
  rw [cif_f (fun z => x z.2.1), cif_f (fun z => x z.2.1)]
theorem prf_1 {g : GI} {q a l n : Int} : prf g q a l n 1 q 1 = l + n := by
  unfold prf
  rw [cif_f (by omega), cif_t ⟨rfl, rfl, rfl⟩]
theorem prf_10 {g : GI} {q a l n s : Int} (h0 : l ≤ s) (h1 : s < l + n) : prf g q a l n 10 q s = g 12 0 (a + (s - l)) - 97 := by
  unfold prf
  rw [cif_t ⟨rfl, rfl, h0, h1⟩]
theorem prf_s {g : GI} {q a l n : Int} (n0 : 0 ≤ n) : gset (gset (prf g q a l n) 10 q (l + n) (g 12 0 (a + n) - 97)) 1 q 1 (l + n + 1) = prf g q a l (n + 1) := by
  funext k i s
  by_cases e : k = 1 ∧ i = q ∧ s = 1
  · rw [e.1, e.2.1, e.2.2, gset_at]
    unfold prf
    rw [cif_f (by omega), cif_t ⟨rfl, rfl, rfl⟩]; omega
  · have h1 : ∀ v (G : GI), gset G 1 q 1 v k i s = G k i s := fun v G => by unfold gset; rw [if_neg e]
    rw [h1]
    by_cases f : k = 10 ∧ i = q ∧ s = l + n
    · rw [f.1, f.2.1, f.2.2, gset_at]
      unfold prf
      rw [cif_t (by omega), show a + (l + n - l) = a + n by omega]
    · have h2 : ∀ v (G : GI), gset G 10 q (l + n) v k i s = G k i s := fun v G => by unfold gset; rw [if_neg f]
      rw [h2]
      unfold prf
      rw [cif_f e, cif_f e, cif_congr (show (k = 10 ∧ i = q ∧ l ≤ s ∧ s < l + n) ↔ (k = 10 ∧ i = q ∧ l ≤ s ∧ s < l + (n + 1)) by
        constructor
        · intro z; exact ⟨z.1, z.2.1, z.2.2.1, by omega⟩
        · intro z
          refine ⟨z.1, z.2.1, z.2.2.1, ?_⟩
          by_cases w : s = l + n
          · exact absurd ⟨z.1, z.2.1, w⟩ f
          · omega)]
/-- the reference's word out of its text; uses forgotten -/
noncomputable def wcp (h : GI) (n : Int) : GI := fun k i s => cif (k = 25 ∧ i = 0 ∧ 0 ≤ s ∧ s < n) (h 21 0 s - 97) (h k i s)
noncomputable def zus (h : GI) (n : Int) : GI := fun k i s => cif (k = 24 ∧ i = 0 ∧ 0 ≤ s ∧ s < n) 0 (h k i s)
theorem wcp_0 {h : GI} : wcp h 0 = h := by funext k i s; exact cif_f (by omega)
theorem zus_0 {h : GI} : zus h 0 = h := by funext k i s; exact cif_f (by omega)
theorem wcp_k {h : GI} {n : Int} {k : Nat} (e : k ≠ 25) : wcp h n k = h k := by funext i s; exact cif_f (fun z => e z.1)
theorem zus_k {h : GI} {n : Int} {k : Nat} (e : k ≠ 24) : zus h n k = h k := by funext i s; exact cif_f (fun z => e z.1)
theorem wcp_s {h : GI} {n : Int} (n0 : 0 ≤ n) : gset (wcp h n) 25 0 n (h 21 0 n - 97) = wcp h (n + 1) := by
  funext k i s
  by_cases e : k = 25 ∧ i = 0 ∧ s = n
  · rw [e.1, e.2.1, e.2.2, gset_at]; unfold wcp; rw [cif_t (by omega)]
  · have h1 : ∀ v (G : GI), gset G 25 0 n v k i s = G k i s := fun v G => by unfold gset; rw [if_neg e]
    rw [h1]
    unfold wcp
    exact cif_congr (by
      constructor
      · intro z; exact ⟨z.1, z.2.1, z.2.2.1, by omega⟩
      · intro z
        refine ⟨z.1, z.2.1, z.2.2.1, ?_⟩
        by_cases w : s = n
        · exact absurd ⟨z.1, z.2.1, w⟩ e
        · omega)
theorem zus_s {h : GI} {n : Int} (n0 : 0 ≤ n) : gset (zus h n) 24 0 n 0 = zus h (n + 1) := by
  funext k i s
  by_cases e : k = 24 ∧ i = 0 ∧ s = n
  · rw [e.1, e.2.1, e.2.2, gset_at]; unfold zus; rw [cif_t (by omega)]
  · have h1 : ∀ v (G : GI), gset G 24 0 n v k i s = G k i s := fun v G => by unfold gset; rw [if_neg e]
    rw [h1]
    unfold zus
    exact cif_congr (by
      constructor
      · intro z; exact ⟨z.1, z.2.1, z.2.2.1, by omega⟩
      · intro z
        refine ⟨z.1, z.2.1, z.2.2.1, ?_⟩
        by_cases w : s = n
        · exact absurd ⟨z.1, z.2.1, w⟩ e
        · omega)
noncomputable def Wdf (h : GI) : GI := zus (gset (gset (gset (wcp h (h 8 0 7)) 8 0 14 (h 8 0 7)) 8 0 7 0) 8 0 15 0) 8
theorem Wdf_k {h : GI} {k : Nat} (a : k ≠ 8) (b : k ≠ 24) (d : k ≠ 25) : Wdf h k = h k := by
  unfold Wdf
  rw [zus_k b, gset_kf a, gset_kf a, gset_kf a, wcp_k d]
theorem Wdf_8 {h : GI} {s : Int} (a : s ≠ 7) (b : s ≠ 14) (d : s ≠ 15) : Wdf h 8 0 s = h 8 0 s := by
  unfold Wdf
  rw [zus_k (by decide), gset_s d, gset_s a, gset_s b, wcp_k (by decide)]
theorem Wdf_v {h : GI} : Wdf h 8 0 7 = 0 ∧ Wdf h 8 0 14 = h 8 0 7 ∧ Wdf h 8 0 15 = 0 := by
  unfold Wdf
  rw [zus_k (by decide)]
  exact ⟨by rw [gset_s (by decide), gset_at], by rw [gset_s (by decide), gset_s (by decide), gset_at], gset_at⟩
theorem Wdf_24 {h : GI} {s : Int} (a : 0 ≤ s) (b : s < 8) : Wdf h 24 0 s = 0 := cif_t ⟨rfl, rfl, a, b⟩
theorem Wdf_25 {h : GI} {s : Int} (a : 0 ≤ s) (b : s < h 8 0 7) : Wdf h 25 0 s = h 21 0 s - 97 := by
  unfold Wdf
  rw [zus_k (by decide), gset_k rfl, gset_k rfl, gset_k rfl]
  exact cif_t ⟨rfl, rfl, a, b⟩
theorem Wdf_c {h h1 : GI} (A : Ag h h1) : Ag (Wdf h) (Wdf h1) := by
  have e8 := A.1 8 (by omega) (by decide)
  have e21 := A.1 21 (by omega) (by decide)
  refine ⟨fun k hk k26 => ?_, fun s hs => ?_⟩
  · have ek := A.1 k hk k26
    funext i s
    unfold Wdf zus
    rw [e8]
    unfold gset wcp
    rw [ek, e21]
  · rw [Wdf_k (by decide) (by decide) (by decide), Wdf_k (by decide) (by decide) (by decide)]; exact A.2 s hs
theorem fi_m1 {P : Int → Prop} : ∀ {n : Nat} {k : Int}, 0 ≤ k → fi n k P (-1) = -1 → ∀ j, k ≤ j → j < k + n → ¬ P j
  | 0, k, _, _, j, h0, h1 => by omega
  | n + 1, k, k0, h, j, h0, h1 => by
    by_cases e : P k
    · rw [fi_t e] at h; omega
    · rw [fi_f e] at h
      by_cases w : j = k
      · rw [w]; exact e
      · exact fi_m1 (by omega) h j (by omega) (by omega)
section WORD
variable {c : Int} {g h r g0 r0 : GI}
theorem fw7G (hsg : Isg g h) (htx : Itx g h) : fi (g 5 0 1).toNat 0 (nl g 12 (g 7 0 9)) (-1) = fwS h := by
  unfold fwS
  rw [htx.2.2.1, hsg.2.2]
  refine fi_congr (fun j j0 j1 => ?_)
  have := htx.2.1
  have h0 := htx.1
  unfold nl
  rw [htx.2.2.2 j j0 (by omega)]
theorem fwS_c {h1 : GI} (A : Ag h h1) : fwS h1 = fwS h := by
  unfold fwS
  rw [A.1 8 (by omega) (by decide)]
  refine fi_congr (fun j _ _ => ?_)
  unfold nl
  rw [A.1 21 (by omega) (by decide)]
theorem Iv_word {G : GI} (c0 : 0 ≤ c) (hI : Iv c g h r) (hf : fwS h = -1) (Gk : ∀ k, k ≠ 1 → k ≠ 2 → k ≠ 5 → k ≠ 7 → k ≠ 10 → G k = g k) (G1 : ∀ i s, i ≠ 0 → G 1 i s = g 1 i s ∧ G 10 i s = g 10 i s) (G7 : ∀ s, s ≠ 12 → G 7 0 s = g 7 0 s) (G2 : ∀ i s, s ≠ 3 → G 2 i s = g 2 i s) (z1 : G 1 0 1 = g 5 0 1) (z2 : ∀ s, 0 ≤ s → s < g 5 0 1 → G 10 0 s = g 12 0 s - 97) (z3 : G 5 0 1 = 0) (z4 : G 7 0 12 = 0) (z5 : ∀ i, 0 ≤ i → i < h 8 0 8 → G 2 (r 14 0 i) 3 = 0) : Iv c G (Wdf h) r := by
  obtain ⟨⟨hS, hR, h6, hP⟩, hsg, htx, hru, hwd, hnw, hst, hsh, hla⟩ := hI
  have R8 := hru.2.1.1
  have H : ∀ k, k ≠ 8 → k ≠ 24 → k ≠ 25 → Wdf h k = h k := fun k a b d => Wdf_k a b d
  have t1 := htx.1
  have t2 := htx.2.1
  have t3 := htx.2.2.1
  have m1 := hsg.1
  have m2 := hsg.2.1
  have m3 := hsg.2.2
  have lt : ∀ j, 0 ≤ j → j < h 8 0 7 → 97 ≤ h 21 0 j ∧ h 21 0 j ≤ 96 + h 8 0 5 := fun j j0 j1 => by
    have := fi_m1 (Int.le_refl 0) hf j j0 (by omega)
    unfold nl at this
    omega
  refine ⟨⟨hS, hR, h6, hP⟩, Isg_c (g := g) (h := h) (G7 9 (by decide)) (Wdf_8 (by decide) (by decide) (by decide)) hsg, ⟨by rw [z3]; decide, by rw [z3]; decide, by rw [z3]; exact Wdf_v.1, fun k k0 k1 => by rw [z3] at k1; omega⟩, ?_, ?_,
    Inw_c (g := g) (h := h) (by rw [Gk 0 (by decide) (by decide) (by decide) (by decide) (by decide)]) (by rw [Gk 9 (by decide) (by decide) (by decide) (by decide) (by decide)]) (by rw [H 27 (by decide) (by decide) (by decide)]) (by rw [H 28 (by decide) (by decide) (by decide)]) (fun s a b => by rw [H 26 (by decide) (by decide) (by decide)]) hnw,
    Ist_c (g := g) (h := h) (r := r) hR (G7 11 (by decide)) (Gk 4 (by decide) (by decide) (by decide) (by decide) (by decide)) (fun q s z => by rw [Gk 0 (by decide) (by decide) (by decide) (by decide) (by decide)]) (fun q s z => by rw [Gk 9 (by decide) (by decide) (by decide) (by decide) (by decide)]) (Wdf_8 (by decide) (by decide) (by decide)) (Wdf_8 (by decide) (by decide) (by decide)) (Wdf_8 (by decide) (by decide) (by decide)) (by rw [H 29 (by decide) (by decide) (by decide)]) (fun k _ => by rw [H 27 (by decide) (by decide) (by decide)]) (fun k _ => by rw [H 28 (by decide) (by decide) (by decide)]) (fun s hs => by rw [H 26 (by decide) (by decide) (by decide)]) (by rw [H 22 (by decide) (by decide) (by decide)]) (by rw [H 23 (by decide) (by decide) (by decide)]) rfl hst,
    Ish_c (g := g) (h := h) (Gk 3 (by decide) (by decide) (by decide) (by decide) (by decide)) (Gk 11 (by decide) (by decide) (by decide) (by decide) (by decide)) (by rw [H 17 (by decide) (by decide) (by decide)]) (by rw [H 18 (by decide) (by decide) (by decide)]) (by rw [H 19 (by decide) (by decide) (by decide)]) hsh, Ila_c (g := g) (h := h) (G7 13 (by decide)) (Wdf_8 (by decide) (by decide) (by decide)) hla⟩
  · obtain ⟨⟨v0, v1⟩, v2, v3⟩ := hru
    unfold Iru Vu7
    rw [L8_c (h := h) (by rw [H 23 (by decide) (by decide) (by decide)]), W8_c (h := h) (by rw [H 22 (by decide) (by decide) (by decide)]), Wdf_8 (by decide) (by decide) (by decide), Wdf_8 (by decide) (by decide) (by decide), G7 10 (by decide)]
    refine ⟨⟨v0, fun k k0 k1 => ?_⟩, v2, fun k k0 k1 => ?_⟩
    · have hk := hR.1 k k0 (by omega)
      have := v1 k k0 k1
      unfold Vw7 at this ⊢
      rw [(G1 _ _ (by omega)).1, (G1 _ _ (by omega)).1]
      refine ⟨⟨this.1.1, fun s s0 s1 => ?_⟩, this.2.1, fun s s0 s1 => ?_⟩
      · rw [(G1 _ _ (by omega)).2]; exact this.1.2 s s0 s1
      · rw [(G1 _ _ (by omega)).2]; exact this.2.2 s s0 s1
    · have w := v3 k k0 k1
      rw [G2 _ 2 (by decide), z5 k k0 k1, Wdf_24 k0 (by omega)]
      exact ⟨rfl, ⟨by omega, by omega⟩, w.2.2⟩
  · unfold Iwd Vw7 Bw
    rw [Wdf_v.2.1, Wdf_v.2.2, z1, z4]
    refine ⟨⟨t3.symm, fun k k0 k1 => ?_⟩, ⟨⟨by omega, by omega⟩, fun k k0 k1 => ?_⟩, rfl, by omega, by omega⟩
    · rw [z2 k k0 (by omega), Wdf_25 k0 k1, htx.2.2.2 k k0 (by omega)]
    · rw [Wdf_25 k0 k1]
      have := lt k k0 k1
      omega
noncomputable def wdV (h : GI) : Int := cif (fwS h = -1) (h 8 0 7) (-1000 - fwS h)
noncomputable def WdH (h : GI) : GI := cif (fwS h = -1) (Wdf h) h
theorem l5_pour (hS : am_St r) {q a b : Int} (q0 : 0 ≤ q) (q1 : q < 17) (a0 : 0 ≤ a) (b1 : b ≤ 20) (l0 : 0 ≤ g 1 q 1) (l1 : g 1 q 1 + (b - a) ≤ am_al 10 q) (al : am_al 10 q ≤ 24) (vb : ∀ s, a ≤ s → s < b → 0 ≤ g 12 0 s ∧ g 12 0 s ≤ 200) : ∀ (m : Nat) (k n : Int), (0 ≤ n) → (k = a + n) → (k + m = b) → Ou 34 3 [vR 5 0, vI a, vI b, vR 1 q, vI k] [] (prf g q a (g 1 q 1) n) r (Rq none (prf g q a (g 1 q 1) (b - a)) r) := by
  intro m
  induction m with
  | zero =>
    intro k n i0 ek i1
    have hn : b - a = n := by omega
    rw [hn]
    refine o_iload (n := 5) rfl rfl rfl ?_
    refine o_iload_n (n := 6) rfl rfl rfl ?_
    refine o_icmp_ge (n := 9) (t := 29) rfl rfl rfl (fun q6 => ?_) (fun q6 => (by exfalso; omega))
    refine o_vret rfl ?_
    first | (exfalso; omega; done) | exact ⟨rfl, rfl, rfl⟩
  | succ m ih =>
    intro k n i0 ek i1
    subst ek
    have hv := vb (a + n) (by omega) (by omega)
    refine o_iload (n := 5) rfl rfl rfl ?_
    refine o_iload_n (n := 6) rfl rfl rfl ?_
    refine o_icmp_ge (n := 9) (t := 29) rfl rfl rfl (fun q6 => (by exfalso; omega)) (fun q6 => ?_)
    refine o_aload_n (n := 10) rfl rfl rfl ?_
    refine o_aload_n (n := 11) rfl rfl rfl ?_
    refine of_5_0 (n := 14) hS rfl rfl ?_
    refine o_iload (n := 16) rfl rfl rfl ?_
    refine o_iald (n := 17) (L := 20) rfl rfl rfl rfl rfl (by omega) (by omega) ?_
    rw [prf_k (by decide) (by decide)]
    refine o_bipush (n := 19) rfl rfl ?_
    refine o_isub (n := 20) rfl rfl (by omega) ?_
    have e1 : prf g q a (g 1 q 1) n 1 q 1 = g 1 q 1 + n := prf_1
    refine o_invv (n := 23) rfl rfl rfl rfl rfl rfl rfl rfl rfl (ok_1 (by omega) (by omega)) (c1_append hS _ _ (by omega) (by omega) (by rw [e1]; omega) (by rw [e1]; omega) al) ?_
    refine o_iinc_4 (n := 26) rfl rfl rfl (by omega) ?_
    refine o_goto (t := 3) rfl rfl ?_
    rw [e1, prf_s i0]
    exact ih _ (n + 1) (by omega) (by omega) (by omega)
theorem c5_pour (hS : am_St r) {q a b : Int} (q0 : 0 ≤ q) (q1 : q < 17) (a0 : 0 ≤ a) (b1 : b ≤ 20) (l0 : 0 ≤ g 1 q 1) (l1 : g 1 q 1 + (b - a) ≤ am_al 10 q) (al : am_al 10 q ≤ 24) (vb : ∀ s, a ≤ s → s < b → 0 ≤ g 12 0 s ∧ g 12 0 s ≤ 200) (ab : a ≤ b) : Rt 34 [vR 5 0, vI a, vI b, vR 1 q] g r none (prf g q a (g 1 q 1) (b - a)) r := by
  refine rt_of ?_
  show Ou 34 0 [vR 5 0, vI a, vI b, vR 1 q, vN] [] g r _
  refine o_iload_n (n := 1) rfl rfl rfl ?_
  refine o_istore_4 (n := 3) rfl rfl rfl ?_
  have L := l5_pour hS q0 q1 a0 b1 l0 l1 al vb (b - a).toNat a 0 (by omega) (by omega) (by omega)
  rw [prf_0] at L
  exact L
theorem l7_word {G : GI} (hS : am_St r) (hR : am_Rg r) (n1 : G 7 0 10 ≤ 8) {t1 : Int} : ∀ (m : Nat) (k : Int) (g1 : GI), (0 ≤ k) → (k + m = G 7 0 10) → (∀ k, k ≠ 2 → g1 k = G k) → (∀ i s, s ≠ 3 → g1 2 i s = G 2 i s) → (∀ i, 0 ≤ i → i < k → g1 2 (r 14 0 i) 3 = 0) → Ou 68 64 [vR 7 0, vI t1, vI k] [] g1 r (fun x g2 r2 => x = some (vI (G 1 0 1)) ∧ r2 = r ∧ (∀ k, k ≠ 2 → g2 k = G k) ∧ (∀ i s, s ≠ 3 → g2 2 i s = G 2 i s) ∧ ∀ i, 0 ≤ i → i < G 7 0 10 → g2 2 (r 14 0 i) 3 = 0) := by
  intro m
  induction m with
  | zero =>
    intro k g1 i0 i1 f1 f2 f3
    have e7 := f1 7 (by decide)
    have hk : k = G 7 0 10 := by omega
    subst hk
    refine o_iload_n (n := 65) rfl rfl rfl ?_
    refine o_aload_n (n := 66) rfl rfl rfl ?_
    refine o_geti (n := 69) rfl rfl rfl rfl rfl ?_
    refine o_icmp_ge (n := 72) (t := 88) rfl rfl rfl (fun q69 => ?_) (fun q69 => (by exfalso; rw [e7] at q69; omega))
    refine o_aload_n (n := 89) rfl rfl rfl ?_
    refine of_7_1 (n := 92) hS rfl rfl ?_
    refine o_geti (n := 95) rfl rfl rfl (ok_1 (by omega) (by omega)) rfl ?_
    rw [f1 1 (by decide)]
    refine o_iret rfl rfl ?_
    exact ⟨rfl, rfl, f1, f2, f3⟩
  | succ m ih =>
    intro k g1 i0 i1 f1 f2 f3
    have e7 := f1 7 (by decide)
    refine o_iload_n (n := 65) rfl rfl rfl ?_
    refine o_aload_n (n := 66) rfl rfl rfl ?_
    refine o_geti (n := 69) rfl rfl rfl rfl rfl ?_
    refine o_icmp_ge (n := 72) (t := 88) rfl rfl rfl (fun q69 => (by exfalso; rw [e7] at q69; omega)) (fun q69 => ?_)
    refine o_aload_n (n := 73) rfl rfl rfl ?_
    refine of_7_2 (n := 76) hS rfl rfl ?_
    refine o_iload_n (n := 77) rfl rfl rfl ?_
    refine o_ra14 (n := 78) hR rfl rfl (by omega) (by omega) (fun hA77 hB77 => ?_)
    refine o_iconst (n := 79) rfl rfl ?_
    refine o_puti (n := 82) rfl rfl rfl (ok_2 (by omega) (by omega)) rfl ?_
    refine o_iinc_2 (n := 85) rfl rfl rfl (by omega) ?_
    refine o_goto (t := 64) rfl rfl ?_
    refine ih (k + 1) _ (by omega) (by omega) (fun q hq => (gset_kf hq).trans (f1 q hq)) (fun i s hs => (gset_s hs).trans (f2 i s hs)) (fun i a b => ?_)
    by_cases e : r 14 0 i = r 14 0 k
    · rw [e, gset_at]
    · by_cases w : i = k
      · exact absurd (by rw [w]) e
      · rw [gset_i e]; exact f3 i a (by omega)
theorem c7_word (hI : Iv c g h r) (c0 : 0 ≤ c) : Ou 68 0 (am_ini 68 [vR 7 0]) [] g r (fun x g1 r1 => x = some (vI (wdV h)) ∧ Fm g g1 ∧ Iv (c + 1) g1 (WdH h) r1) := by
  show Ou 68 0 [vR 7 0, vN, vN] [] g r _
  obtain ⟨⟨hS, hR, h6, hP⟩, hsg, htx, hru, hwd, hnw, hst, hsh, hla⟩ := id hI
  obtain ⟨sg1, sg2, sg3⟩ := hI.2.1
  obtain ⟨tx1, tx2, tx3, tx4⟩ := hI.2.2.1
  have ru0 : g 7 0 10 = h 8 0 8 := hI.2.2.2.1.1.1
  have ru1 := hI.2.2.2.1.2.1.1
  have wd0 : g 1 0 1 = h 8 0 14 := hI.2.2.2.2.1.1.1
  have wd1 := hI.2.2.2.2.1.2.1.1
  have wd2 := hI.2.2.2.2.1.2.2
  have nw0 : g 0 0 0 = h 27 0 8 := hI.2.2.2.2.2.1.1.1
  have nw1 : g 0 0 1 = h 28 0 8 := hI.2.2.2.2.2.1.1.2.1
  have nw2 := hI.2.2.2.2.2.1.2.1
  have nw3 := hI.2.2.2.2.2.1.2.2.1
  have st0 := hI.2.2.2.2.2.2.1.1
  have st1 := hI.2.2.2.2.2.2.1.2.1
  have st2 := hI.2.2.2.2.2.2.1.2.2.1
  have la0 : g 7 0 13 = h 8 0 4 := hI.2.2.2.2.2.2.2.2
  refine o_aload_n (n := 1) rfl rfl rfl ?_
  refine of_7_0 (n := 4) hS rfl rfl ?_
  refine o_aload_n (n := 5) rfl rfl rfl ?_
  refine o_geti (n := 8) rfl rfl rfl rfl rfl ?_
  have hfa := c5_faultAsWord (g := g) hS (g 7 0 9) (by omega) (by omega) (by omega) (by omega)
  rw [fw7G hsg htx] at hfa
  have hfr : fwS h = -1 ∨ (0 ≤ fwS h ∧ fwS h < 20) := by
    rcases fi_range (d := -1) (p := nl h 21 (h 8 0 5)) (n := (h 8 0 7).toNat) (k := 0) with w | ⟨w1, w2, _⟩
    · exact Or.inl w
    · refine Or.inr ⟨w1, ?_⟩
      have : fwS h < 0 + ((h 8 0 7).toNat : Int) := w2
      omega
  refine o_invi (n := 11) rfl rfl rfl rfl rfl rfl rfl rfl rfl rfl (hfa) ?_
  refine o_istore_1 (n := 12) rfl rfl rfl ?_
  refine o_iload_n (n := 13) rfl rfl rfl ?_
  refine o_iconst (n := 14) rfl rfl ?_
  refine o_icmp_eq (n := 17) (t := 22) rfl rfl rfl (fun q14 => ?_) (fun q14 => ?_)
  · have hf : fwS h = -1 := by omega
    refine o_aload_n (n := 23) rfl rfl rfl ?_
    refine of_7_1 (n := 26) hS rfl rfl ?_
    refine o_iconst (n := 27) rfl rfl ?_
    refine o_puti (n := 30) rfl rfl rfl (ok_1 (by omega) (by omega)) rfl ?_
    refine o_aload_n (n := 31) rfl rfl rfl ?_
    refine of_7_0 (n := 34) hS rfl rfl ?_
    refine o_iconst (n := 35) rfl rfl ?_
    refine o_aload_n (n := 36) rfl rfl rfl ?_
    refine of_7_0 (n := 39) hS rfl rfl ?_
    refine o_geti (n := 42) rfl rfl rfl rfl rfl ?_
    rw [gset_k rfl]
    refine o_aload_n (n := 43) rfl rfl rfl ?_
    refine of_7_1 (n := 46) hS rfl rfl ?_
    have e5 : gset g 1 0 1 0 1 0 1 = 0 := gset_at
    have al0 : am_al 10 0 = 24 := rfl
    have lt : ∀ j, 0 ≤ j → j < h 8 0 7 → 97 ≤ h 21 0 j ∧ h 21 0 j ≤ 96 + h 8 0 5 := fun j j0 j1 => by
      have := fi_m1 (Int.le_refl 0) hf j j0 (by omega)
      unfold nl at this
      omega
    have hpo := c5_pour (g := gset g 1 0 1 0) (r := r) (q := 0) (a := 0) (b := g 5 0 1) hS (by omega) (by omega) (by omega) (by omega) (by rw [e5]; omega) (by rw [e5]; omega) (by omega) (fun s s0 s1 => by
      rw [gset_k rfl]
      have h1 := htx.2.2.2 s s0 (by omega)
      have h2 := lt s s0 (by omega)
      omega) (by omega)
    rw [e5] at hpo
    refine o_invv (n := 49) rfl rfl rfl rfl rfl rfl rfl rfl rfl rfl (hpo) ?_
    refine o_aload_n (n := 50) rfl rfl rfl ?_
    refine of_7_0 (n := 53) hS rfl rfl ?_
    refine o_iconst (n := 54) rfl rfl ?_
    refine o_puti (n := 57) rfl rfl rfl rfl rfl ?_
    refine o_aload_n (n := 58) rfl rfl rfl ?_
    refine o_iconst (n := 59) rfl rfl ?_
    refine o_puti (n := 62) rfl rfl rfl rfl rfl ?_
    refine o_iconst (n := 63) rfl rfl ?_
    refine o_istore_2 (n := 64) rfl rfl rfl ?_
    obtain ⟨n9, v9, g9, r9, w1, w2, w3, w4, w5, w6⟩ := l7_word (G := gset (gset (prf (gset g 1 0 1 0) 0 0 0 (g 5 0 1 - 0)) 5 0 1 0) 7 0 12 0) (r := r) (t1 := fwS h) hS hR (by rw [gset_s (by decide), gset_k rfl, prf_k (by decide) (by decide), gset_k rfl]; omega) (g 7 0 10).toNat 0 _ (by omega) (by rw [gset_s (by decide), gset_k rfl, prf_k (by decide) (by decide), gset_k rfl]; omega) (fun _ _ => rfl) (fun _ _ _ => rfl) (fun i a b => by omega)
    subst w3
    refine ⟨n9, v9, g9, _, w1, ?_, ?_, ?_⟩
    · rw [w2]
      unfold wdV
      rw [cif_t hf, gset_k rfl, gset_k rfl, prf_1]
      exact congrArg (fun z => some (vI z)) (by omega)
    · intro k hk
      unfold isM at hk
      rw [w4 k (by omega), gset_kf (by omega), gset_kf (by omega), prf_k (by omega) (by omega), gset_kf (by omega)]
    · unfold WdH
      rw [cif_t hf]
      refine Iv_1 (Iv_word c0 hI hf (fun k a b d e f => ?_) (fun i s hi => ⟨?_, ?_⟩) (fun s hs => ?_) (fun i s hs => ?_) ?_ (fun s s0 s1 => ?_) ?_ ?_ (fun i a b => ?_))
      · rw [w4 k b, gset_kf e, gset_kf d, prf_k a f, gset_kf a]
      · rw [w4 1 (by decide), gset_k rfl, gset_k rfl, prf_o hi, gset_i hi]
      · rw [w4 10 (by decide), gset_k rfl, gset_k rfl, prf_o hi, gset_k rfl]
      · rw [w4 7 (by decide), gset_s hs, gset_k rfl, prf_k (by decide) (by decide), gset_k rfl]
      · rw [w5 i s hs, gset_k rfl, gset_k rfl, prf_k (by decide) (by decide), gset_k rfl]
      · rw [w4 1 (by decide), gset_k rfl, gset_k rfl, prf_1]; omega
      · rw [w4 10 (by decide), gset_k rfl, gset_k rfl, prf_10 (by omega) (by omega), gset_k rfl, show 0 + (s - 0) = s by omega]
      · rw [w4 5 (by decide), gset_k rfl, gset_at]
      · rw [w4 7 (by decide), gset_at]
      · exact w6 i a (by rw [gset_s (by decide), gset_k rfl, prf_k (by decide) (by decide), gset_k rfl]; omega)
  · refine o_iload_n (n := 18) rfl rfl rfl ?_
    refine o_invsi (n := 21) rfl rfl rfl rfl rfl rfl (c7_faultAnswer _ (by omega) (by omega)) ?_
    refine o_iret rfl rfl ?_
    have hf : ¬ fwS h = -1 := by omega
    refine ⟨?_, Fm_refl g, ?_⟩
    · unfold wdV; rw [cif_f hf]
    · unfold WdH; rw [cif_f hf]; exact Iv_1 hI
theorem l8_wz (hS : am_St r) {G : GI} {t1 : Int} : ∀ (m : Nat) (k : Int), (0 ≤ k) → (k + m = 8) → Ou 175 67 [vR 8 0, vI t1, vI k] [] (zus G k) r (Rq (some (vI (G 8 0 14))) (zus G 8) r) := by
  intro m
  induction m with
  | zero =>
    intro k i0 i1
    have hk : k = 8 := by omega
    subst hk
    refine o_iload_n (n := 68) rfl rfl rfl ?_
    refine o_bipush (n := 70) rfl rfl ?_
    refine o_icmp_ge (n := 73) (t := 86) rfl rfl rfl (fun q70 => ?_) (fun q70 => (by exfalso; omega))
    refine o_aload_n (n := 87) rfl rfl rfl ?_
    refine o_geti (n := 90) rfl rfl rfl rfl rfl ?_
    rw [zus_k (by decide)]
    refine o_iret rfl rfl ?_
    first | (exfalso; omega; done) | exact ⟨rfl, rfl, rfl⟩
  | succ m ih =>
    intro k i0 i1
    refine o_iload_n (n := 68) rfl rfl rfl ?_
    refine o_bipush (n := 70) rfl rfl ?_
    refine o_icmp_ge (n := 73) (t := 86) rfl rfl rfl (fun q70 => (by exfalso; omega)) (fun q70 => ?_)
    refine o_aload_n (n := 74) rfl rfl rfl ?_
    refine of_8_11 (n := 77) hS rfl rfl ?_
    refine o_iload_n (n := 78) rfl rfl rfl ?_
    refine o_iconst (n := 79) rfl rfl ?_
    refine o_iast (n := 80) (L := 8) rfl rfl rfl rfl rfl (by omega) (by omega) ?_
    refine o_iinc_2 (n := 83) rfl rfl rfl (by omega) ?_
    refine o_goto (t := 67) rfl rfl ?_
    rw [zus_s i0]
    exact ih (k + 1) (by omega) (by omega)
theorem l8_wc (hS : am_St r) {t1 : Int} (t0 : 0 ≤ g 8 0 7) (tb_ : g 8 0 7 ≤ 20) (lt : ∀ j, 0 ≤ j → j < g 8 0 7 → 97 ≤ g 21 0 j ∧ g 21 0 j ≤ 100) : ∀ (m : Nat) (k : Int), (0 ≤ k) → (k + m = g 8 0 7) → Ou 175 18 [vR 8 0, vI t1, vI k] [] (wcp g k) r (Rq (some (vI (g 8 0 7))) (Wdf g) r) := by
  intro m
  induction m with
  | zero =>
    intro k i0 i1
    have e7 : wcp g k 8 = g 8 := wcp_k (by decide)
    have hk : k = g 8 0 7 := by omega
    refine o_iload_n (n := 19) rfl rfl rfl ?_
    refine o_aload_n (n := 20) rfl rfl rfl ?_
    refine o_geti (n := 23) rfl rfl rfl rfl rfl ?_
    refine o_icmp_ge (n := 26) (t := 47) rfl rfl rfl (fun q23 => ?_) (fun q23 => (by exfalso; rw [e7] at q23; omega))
    refine o_aload_n (n := 48) rfl rfl rfl ?_
    refine o_aload_n (n := 49) rfl rfl rfl ?_
    refine o_geti (n := 52) rfl rfl rfl rfl rfl ?_
    rw [e7, hk]
    refine o_puti (n := 55) rfl rfl rfl rfl rfl ?_
    refine o_aload_n (n := 56) rfl rfl rfl ?_
    refine o_iconst (n := 57) rfl rfl ?_
    refine o_puti (n := 60) rfl rfl rfl rfl rfl ?_
    refine o_aload_n (n := 61) rfl rfl rfl ?_
    refine o_iconst (n := 62) rfl rfl ?_
    refine o_puti (n := 65) rfl rfl rfl rfl rfl ?_
    refine o_iconst (n := 66) rfl rfl ?_
    refine o_istore_2 (n := 67) rfl rfl rfl ?_
    have L := l8_wz (r := r) hS (G := gset (gset (gset (wcp g (g 8 0 7)) 8 0 14 (g 8 0 7)) 8 0 7 0) 8 0 15 0) (t1 := t1) 8 0 (by omega) (by omega)
    rw [zus_0] at L
    rw [gset_s (by decide), gset_s (by decide), gset_at] at L
    exact L
  | succ m ih =>
    intro k i0 i1
    have e7 : wcp g k 8 = g 8 := wcp_k (by decide)
    have hl := lt k i0 (by omega)
    refine o_iload_n (n := 19) rfl rfl rfl ?_
    refine o_aload_n (n := 20) rfl rfl rfl ?_
    refine o_geti (n := 23) rfl rfl rfl rfl rfl ?_
    refine o_icmp_ge (n := 26) (t := 47) rfl rfl rfl (fun q23 => (by exfalso; rw [e7] at q23; omega)) (fun q23 => ?_)
    refine o_aload_n (n := 27) rfl rfl rfl ?_
    refine of_8_13 (n := 30) hS rfl rfl ?_
    refine o_iload_n (n := 31) rfl rfl rfl ?_
    refine o_aload_n (n := 32) rfl rfl rfl ?_
    refine of_8_6 (n := 35) hS rfl rfl ?_
    refine o_iload_n (n := 36) rfl rfl rfl ?_
    refine o_iald (n := 37) (L := 20) rfl rfl rfl rfl rfl (by omega) (by omega) ?_
    rw [wcp_k (by decide)]
    refine o_bipush (n := 39) rfl rfl ?_
    refine o_isub (n := 40) rfl rfl (by omega) ?_
    refine o_iast (n := 41) (L := 24) rfl rfl rfl rfl rfl (by omega) (by omega) ?_
    refine o_iinc_2 (n := 44) rfl rfl rfl (by omega) ?_
    refine o_goto (t := 18) rfl rfl ?_
    rw [wcp_s i0]
    exact ih (k + 1) (by omega) (by omega)
theorem c8_word (hI : Iv c g0 g r0) (hS : am_St r) : Ou 175 0 (am_ini 175 [vR 8 0]) [] g r (fun x g1 r1 => x = some (vI (wdV g)) ∧ r1 = r ∧ FH (WdH g) g g1) := by
  show Ou 175 0 [vR 8 0, vN, vN] [] g r _
  obtain ⟨⟨hS0, hR, h6, hP⟩, hsg, htx, hru, hwd, hnw, hst, hsh, hla⟩ := id hI
  obtain ⟨sg1, sg2, sg3⟩ := hI.2.1
  obtain ⟨tx1, tx2, tx3, tx4⟩ := hI.2.2.1
  have ru0 : g0 7 0 10 = g 8 0 8 := hI.2.2.2.1.1.1
  have ru1 := hI.2.2.2.1.2.1.1
  have wd0 : g0 1 0 1 = g 8 0 14 := hI.2.2.2.2.1.1.1
  have wd1 := hI.2.2.2.2.1.2.1.1
  have wd2 := hI.2.2.2.2.1.2.2
  have nw0 : g0 0 0 0 = g 27 0 8 := hI.2.2.2.2.2.1.1.1
  have nw1 : g0 0 0 1 = g 28 0 8 := hI.2.2.2.2.2.1.1.2.1
  have nw2 := hI.2.2.2.2.2.1.2.1
  have nw3 := hI.2.2.2.2.2.1.2.2.1
  have st0 := hI.2.2.2.2.2.2.1.1
  have st1 := hI.2.2.2.2.2.2.1.2.1
  have st2 := hI.2.2.2.2.2.2.1.2.2.1
  have la0 : g0 7 0 13 = g 8 0 4 := hI.2.2.2.2.2.2.2.2
  refine o_aload_n (n := 1) rfl rfl rfl ?_
  have hfa := c8_faultOfWord (g := g) hS (by omega) (by omega) (by omega) (by omega)
  have hfa : Rt 126 [vR 8 0] g r (some (vI (fwS g))) g r := hfa
  have hfr : fwS g = -1 ∨ (0 ≤ fwS g ∧ fwS g < 20) := by
    rcases fi_range (d := -1) (p := nl g 21 (g 8 0 5)) (n := (g 8 0 7).toNat) (k := 0) with w | ⟨w1, w2, _⟩
    · exact Or.inl w
    · refine Or.inr ⟨w1, ?_⟩
      have : fwS g < 0 + ((g 8 0 7).toNat : Int) := w2
      omega
  refine o_invi (n := 4) rfl rfl rfl rfl rfl rfl rfl rfl rfl rfl (hfa) ?_
  refine o_istore_1 (n := 5) rfl rfl rfl ?_
  refine o_iload_n (n := 6) rfl rfl rfl ?_
  refine o_iconst (n := 7) rfl rfl ?_
  refine o_icmp_eq (n := 10) (t := 16) rfl rfl rfl (fun q7 => ?_) (fun q7 => ?_)
  · refine o_iconst (n := 17) rfl rfl ?_
    refine o_istore_2 (n := 18) rfl rfl rfl ?_
    have hf : fwS g = -1 := by omega
    have lt : ∀ j, 0 ≤ j → j < g 8 0 7 → 97 ≤ g 21 0 j ∧ g 21 0 j ≤ 100 := fun j j0 j1 => by
      have := fi_m1 (Int.le_refl 0) hf j j0 (by omega)
      unfold nl at this
      omega
    have L := l8_wc (g := g) (r := r) hS (t1 := fwS g) (by omega) (by omega) lt (g 8 0 7).toNat 0 (by omega) (by omega)
    rw [wcp_0] at L
    obtain ⟨n9, v9, g9, r9, w1, w2, w3, w4⟩ := L
    refine ⟨n9, v9, g9, r9, w1, ?_, w4, ?_⟩
    · unfold wdV; rw [cif_t hf]; exact w2
    · unfold WdH; rw [cif_t hf, w3]
      exact ⟨Ag_refl _, fun k hk => Wdf_k (by unfold isM at hk; omega) (by unfold isM at hk; omega) (by unfold isM at hk; omega)⟩
  · refine o_sipush (n := 13) rfl rfl ?_
    refine o_iload_n (n := 14) rfl rfl rfl ?_
    refine o_isub (n := 15) rfl rfl (by omega) ?_
    refine o_iret rfl rfl ?_
    have hf : ¬ fwS g = -1 := by omega
    refine ⟨?_, rfl, ?_⟩
    · unfold wdV; rw [cif_f hf]
    · unfold WdH; rw [cif_f hf]; exact ⟨Ag_refl g, fun _ _ => rfl⟩
theorem p_word : Pr 68 175 [] := pr_H2 (fun h => vI (wdV h)) WdH (fun c g h r c0 c1 hI => c7_word hI c0) (fun c g0 g r0 r c0 c1 hI hS => c8_word hI hS) (fun c g h h1 r hI A => by
  show vI (wdV h1) = vI (wdV h) ∧ Ag (WdH h) (WdH h1)
  unfold wdV WdH
  rw [fwS_c A, A.1 8 (by omega) (by decide)]
  refine ⟨rfl, ?_⟩
  by_cases e : fwS h = -1
  · rw [cif_t e, cif_t e]; exact Wdf_c A
  · rw [cif_f e, cif_f e]; exact A)
end WORD
