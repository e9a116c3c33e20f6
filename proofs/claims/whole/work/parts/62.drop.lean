/-! drop. Written by wip/gen/gen62.py -/
noncomputable def drf (r : GI) (i k : Int) : GI := fun q a s => cif (q = 14 ∧ a = 0 ∧ i ≤ s ∧ s < k) (r 14 0 (s + 1)) (r q a s)
theorem drf_0 {r : GI} {i : Int} : drf r i i = r := by funext q a s; exact cif_f (by omega)
theorem drf_k {r : GI} {i k : Int} {q : Nat} (e : q ≠ 14) : drf r i k q = r q := by funext a s; exact cif_f (fun z => e z.1)
theorem drf_i {r : GI} {i k s : Int} (a : i ≤ s) (b : s < k) : drf r i k 14 0 s = r 14 0 (s + 1) := cif_t ⟨rfl, rfl, a, b⟩
theorem drf_o {r : GI} {i k s : Int} (a : s < i ∨ k ≤ s) : drf r i k 14 0 s = r 14 0 s := cif_f (fun z => by omega)
theorem drf_s {r : GI} {i k : Int} (h : i ≤ k) : gset (drf r i k) 14 0 k (r 14 0 (k + 1)) = drf r i (k + 1) := by
  funext q a s
  by_cases e : q = 14 ∧ a = 0 ∧ s = k
  · rw [e.1, e.2.1, e.2.2, gset_at, drf_i h (by omega)]
  · have h1 : ∀ v (G : GI), gset G 14 0 k v q a s = G q a s := fun v G => by unfold gset; rw [if_neg e]
    rw [h1]
    unfold drf
    exact cif_congr (by
      constructor
      · intro z; exact ⟨z.1, z.2.1, z.2.2.1, by omega⟩
      · intro z
        refine ⟨z.1, z.2.1, z.2.2.1, ?_⟩
        by_cases w : s = k
        · exact absurd ⟨z.1, z.2.1, w⟩ e
        · omega)
theorem St_14 {r r' : GI} (h : am_St r) (X : ∀ k, k ≠ 14 → r' k = r k) : am_St r' := by
  unfold am_St
  rw [X 0 (by decide), X 1 (by decide), X 2 (by decide), X 3 (by decide), X 4 (by decide), X 5 (by decide), X 7 (by decide), X 8 (by decide), X 16 (by decide)]
  exact h
theorem Rg_14 {r r' : GI} (h : am_Rg r) (X : ∀ k, k ≠ 14 → r' k = r k) (Y : ∀ j, 0 ≤ j → j < 8 → ∃ j', 0 ≤ j' ∧ j' < 8 ∧ r' 14 0 j = r 14 0 j') : am_Rg r' := by
  refine ⟨fun j j0 j1 => ?_, by rw [X 15 (by decide)]; exact h.2.1, by rw [X 6 (by decide)]; exact h.2.2⟩
  obtain ⟨j', a, b, e⟩ := Y j j0 j1
  rw [e]; exact h.1 j' a b
theorem drf_R {r : GI} {i k : Int} (h : am_Rg r) (k1 : k ≤ 7) : am_Rg (drf r i k) := Rg_14 h (fun q e => drf_k e) (fun j j0 j1 => by
  by_cases e : i ≤ j ∧ j < k
  · exact ⟨j + 1, by omega, by omega, drf_i e.1 e.2⟩
  · exact ⟨j, j0, j1, drf_o (by omega)⟩)
/-- the component's rules after a drop -/
noncomputable def Drr (r : GI) (i R : Int) : GI := gset (drf r i (R - 1)) 14 0 (R - 1) (r 14 0 i)
section DROP
variable {c c' : Int} {g h r H g1 : GI} {i R : Int}
theorem Drr_k {q : Nat} (e : q ≠ 14) : Drr r i R q = r q := by unfold Drr; rw [gset_kf e, drf_k e]
theorem Drr_v {s : Int} : Drr r i R 14 0 s = r 14 0 (cif (s = R - 1) i (cif (i ≤ s ∧ s < R - 1) (s + 1) s)) := by
  unfold Drr
  by_cases e : s = R - 1
  · rw [cif_t e, e, gset_at]
  · rw [cif_f e, gset_s e]
    by_cases f : i ≤ s ∧ s < R - 1
    · rw [cif_t f, drf_i f.1 f.2]
    · rw [cif_f f, drf_o (by omega)]
theorem Drr_Ir (i0 : 0 ≤ i) (i1 : i < R) (R1 : R ≤ 8) (h : Ir r) : Ir (Drr r i R) := by
  obtain ⟨hS, hR, h6, hP⟩ := h
  refine ⟨St_14 hS (fun q e => Drr_k e), Rg_14 hR (fun q e => Drr_k e) (fun j j0 j1 => ?_), ?_, ⟨fun a b a0 a1 b0 b1 e => ?_, by rw [Drr_k (by decide)]; exact hP.2⟩⟩
  · rw [Drr_v]
    refine ⟨_, ?_, ?_, rfl⟩
    · unfold cif; split
      · exact i0
      · split <;> omega
    · unfold cif; split
      · omega
      · split <;> omega
  · unfold R6; rw [Drr_k (by decide)]; exact h6
  · rw [Drr_v, Drr_v] at e
    have w := hP.1 _ _ (by unfold cif; split <;> (try split) <;> omega) (by unfold cif; split <;> (try split) <;> omega) (by unfold cif; split <;> (try split) <;> omega) (by unfold cif; split <;> (try split) <;> omega) e
    unfold cif at w
    revert w
    split <;> split <;> (try split) <;> (try split) <;> omega
/-- the reference's arrays after rules i to k - 1 were moved down -/
def Dq (g g1 : GI) (i R k : Int) : Prop := (∀ q, q ≠ 8 → q ≠ 22 → q ≠ 23 → q ≠ 24 → g1 q = g q) ∧ (∀ s, s ≠ 8 → s ≠ 12 → g1 8 0 s = g 8 0 s) ∧ g1 8 0 8 = R - 1 ∧ (∀ s, g1 22 0 s = cif (12 * i ≤ s ∧ s < 12 * k) (g 22 0 (s + 12)) (g 22 0 s)) ∧ (∀ s, g1 23 0 s = cif (2 * i ≤ s ∧ s < 2 * k) (g 23 0 (s + 2)) (g 23 0 s)) ∧ (∀ s, g1 24 0 s = cif (i ≤ s ∧ s < k) (g 24 0 (s + 1)) (g 24 0 s)) ∧ ∀ j, 0 ≤ j → j < 8 → (bt (g1 8 0 12) j ↔ bt (g 8 0 12) (cif (i ≤ j ∧ j < k) (j + 1) j))
theorem Iv_drop (hc : c ≤ c') (hI : Iv c g h r) (h19 : h 8 0 19 = 0) (eR : R = h 8 0 8) (i0 : 0 ≤ i) (i1 : i < R) (D : Dq h H i R (R - 1)) : Iv c' (gset g 7 0 10 (R - 1)) H (Drr r i R) := by
  obtain ⟨hr, hsg, htx, hru, hwd, hnw, hst, hsh, hla⟩ := hI
  obtain ⟨⟨v0, v1⟩, v2, v3⟩ := hru
  have R8 := v2.1
  have hR := hr.2.1
  obtain ⟨d1, d2, d3, d4, d5, d6, d7⟩ := D
  have J : ∀ j, 0 ≤ j → j < R - 1 → ∃ j', (0 ≤ j' ∧ j' < R) ∧ j' = cif (i ≤ j ∧ j < R - 1) (j + 1) j ∧ Drr r i R 14 0 j = r 14 0 j' ∧ (∀ s, s = 0 ∨ s = 1 → L8 H j s = L8 h j' s) ∧ (∀ s k, s = 0 ∨ s = 1 → 0 ≤ k → k < 6 → W8 H j s k = W8 h j' s k) ∧ H 24 0 j = h 24 0 j' := fun j j0 j1 => by
    by_cases e : i ≤ j ∧ j < R - 1
    · refine ⟨j + 1, by omega, by rw [cif_t e], ?_, fun s hs => ?_, fun s k hs k0 k1 => ?_, ?_⟩
      · rw [Drr_v, cif_f (by omega), cif_t e]
      · unfold L8; rw [d5, cif_t (by omega), show 2 * j + s + 2 = 2 * (j + 1) + s by omega]
      · unfold W8; rw [d4, cif_t (by omega), show 12 * j + 6 * s + k + 12 = 12 * (j + 1) + 6 * s + k by omega]
      · rw [d6, cif_t e]
    · refine ⟨j, by omega, by rw [cif_f e], ?_, fun s hs => ?_, fun s k hs k0 k1 => ?_, ?_⟩
      · rw [Drr_v, cif_f (by omega), cif_f e]
      · unfold L8; rw [d5, cif_f (by omega)]
      · unfold W8; rw [d4, cif_f (by omega)]
      · rw [d6, cif_f e]
  refine ⟨Drr_Ir i0 i1 (by omega) hr, Isg_c (g := g) (h := h) (gset_s (by decide)) (d2 5 (by decide) (by decide)) hsg, Itx_c (g := g) (h := h) (gset_k rfl) (d2 7 (by decide) (by decide)) (by rw [gset_kf (by decide)]) (by rw [d1 21 (by decide) (by decide) (by decide) (by decide)]) htx, ⟨⟨by rw [gset_at, d3], fun j j0 j1 => ?_⟩, ⟨by rw [d3]; omega, fun j j0 j1 => ?_⟩, fun j j0 j1 => ?_⟩,
    Iwd_c (g := g) (h := h) (by omega) (gset_k rfl) (by rw [gset_kf (by decide)]) (gset_s (by decide)) (d2 14 (by decide) (by decide)) (by rw [d1 25 (by decide) (by decide) (by decide) (by decide)]) (d2 15 (by decide) (by decide)) hwd,
    Inw_c (g := g) (h := h) (by rw [gset_kf (by decide)]) (by rw [gset_kf (by decide)]) (by rw [d1 27 (by decide) (by decide) (by decide) (by decide)]) (by rw [d1 28 (by decide) (by decide) (by decide) (by decide)]) (fun s a b => by rw [d1 26 (by decide) (by decide) (by decide) (by decide)]) hnw,
    Ist_n (by rw [gset_s (by decide)]; have := hst.1; omega) (by rw [d2 19 (by decide) (by decide)]; exact h19),
    Ish_c (g := g) (h := h) (gset_kf (by decide)) (gset_kf (by decide)) (by rw [d1 17 (by decide) (by decide) (by decide) (by decide)]) (by rw [d1 18 (by decide) (by decide) (by decide) (by decide)]) (by rw [d1 19 (by decide) (by decide) (by decide) (by decide)]) hsh, Ila_c (g := g) (h := h) (gset_s (by decide)) (d2 4 (by decide) (by decide)) hla⟩
  · rw [d3] at j1
    obtain ⟨j', b, _, e1, e2, e3, e4⟩ := J j j0 j1
    have V := v1 j' b.1 (by omega)
    have B := v2.2 j' b.1 (by omega)
    have b1 := B.1.2
    have b2 := B.2.2
    unfold Vw7
    rw [e1, e2 0 (by omega), e2 1 (by omega), gset_k rfl, gset_k rfl]
    refine ⟨⟨V.1.1, fun k k0 k1 => ?_⟩, V.2.1, fun k k0 k1 => ?_⟩
    · rw [e3 0 k (by omega) k0 (by omega), gset_k rfl]; exact V.1.2 k k0 k1
    · rw [e3 1 k (by omega) k0 (by omega), gset_k rfl]; exact V.2.2 k k0 k1
  · rw [d3] at j1
    obtain ⟨j', b, _, e1, e2, e3, e4⟩ := J j j0 j1
    have B := v2.2 j' b.1 (by omega)
    have b1 := B.1.2
    have b2 := B.2.2
    rw [e2 0 (by omega), e2 1 (by omega)]
    refine ⟨⟨⟨B.1.1.1, fun k k0 k1 => ?_⟩, b1⟩, ⟨B.2.1.1, fun k k0 k1 => ?_⟩, b2⟩
    · rw [e3 0 k (by omega) k0 (by omega)]; exact B.1.1.2 k k0 k1
    · rw [e3 1 k (by omega) k0 (by omega)]; exact B.2.1.2 k k0 k1
  · rw [d3] at j1
    obtain ⟨j', b, ej, e1, e2, e3, e4⟩ := J j j0 j1
    have w := v3 j' b.1 (by omega)
    rw [e1, e4, gset_k rfl, gset_k rfl, d7 j j0 (by omega), ← ej]
    exact ⟨w.1, ⟨w.2.1.1, by omega⟩, w.2.2⟩
theorem Dq_s {k b : Int} (D : Dq g g1 i R k) (i0 : 0 ≤ i) (hk : i ≤ k) (k7 : k < 7) (hb : ∀ j, 0 ≤ j → j < 8 → (bt b j ↔ cif (j = k) (bt (g1 8 0 12) (k + 1)) (bt (g1 8 0 12) j))) (hk1 : bt (g1 8 0 12) (k + 1) ↔ bt (g 8 0 12) (k + 1)) : Dq g (gset (gset (gset (gset (gcpy g1 22 0 (12 * k + 12) 22 0 (12 * k) 12) 23 0 (2 * k) (g 23 0 (2 * k + 2))) 23 0 (2 * k + 1) (g 23 0 (2 * k + 3))) 24 0 k (g 24 0 (k + 1))) 8 0 12 b) i R (k + 1) := by
  obtain ⟨d1, d2, d3, d4, d5, d6, d7⟩ := D
  refine ⟨fun q x y z w => ?_, fun s x y => ?_, ?_, fun s => ?_, fun s => ?_, fun s => ?_, fun j j0 j1 => ?_⟩
  · rw [gset_kf x, gset_kf w, gset_kf z, gset_kf z, gcpy_kf y]; exact d1 q x y z w
  · rw [gset_s y, gset_k rfl, gset_k rfl, gset_k rfl, gcpy_kf (by decide)]; exact d2 s x y
  · rw [gset_s (by decide), gset_k rfl, gset_k rfl, gset_k rfl, gcpy_kf (by decide)]; exact d3
  · rw [gset_k rfl, gset_k rfl, gset_k rfl, gset_k rfl]
    by_cases e : 12 * k ≤ s ∧ s < 12 * k + 12
    · rw [gcpy_i e.1 e.2, d4, cif_f (by omega), cif_t (by omega), show 12 * k + 12 + (s - 12 * k) = s + 12 by omega]
    · rw [gcpy_o (by omega), d4]
      exact cif_congr (by omega)
  · rw [gset_k rfl, gset_k rfl]
    by_cases e : s = 2 * k + 1
    · rw [e, gset_at, cif_t (by omega), show 2 * k + 1 + 2 = 2 * k + 3 by omega]
    · rw [gset_s e]
      by_cases f : s = 2 * k
      · rw [f, gset_at, cif_t (by omega)]
      · rw [gset_s f, gcpy_kf (by decide), d5]
        exact cif_congr (by omega)
  · rw [gset_k rfl]
    by_cases e : s = k
    · rw [e, gset_at, cif_t (by omega)]
    · rw [gset_s e, gset_k rfl, gset_k rfl, gcpy_kf (by decide), d6]
      exact cif_congr (by omega)
  · rw [gset_at, hb j j0 j1]
    by_cases e : j = k
    · rw [cif_t e, e, cif_t (by omega)]; exact hk1
    · rw [cif_f e, d7 j j0 j1, cif_congr (show (i ≤ j ∧ j < k) ↔ (i ≤ j ∧ j < k + 1) by omega)]
noncomputable def drA (g : GI) (i : Int) : Int := cif (0 ≤ i ∧ i < g 8 0 8) (cif (0 < g 8 0 19) (-3) (g 8 0 8 - 1)) (-2)
def drok (g : GI) (i : Int) : Prop := (0 ≤ i ∧ i < g 8 0 8) ∧ g 8 0 19 = 0
theorem l7_drop (hS : am_St r) (hR : am_Rg r) (eR : g 7 0 10 = R) (i0 : 0 ≤ i) (i1 : i < R) (R1 : R ≤ 8) : ∀ (m : Nat) (k : Int), (i ≤ k) → (k + m = R - 1) → Ou 50 30 [vR 7 0, vI i, vR 2 (r 14 0 i), vI k] [] g (drf r i k) (Rq (some (vI (R - 1))) (gset g 7 0 10 (R - 1)) (Drr r i R)) := by
  intro m
  induction m with
  | zero =>
    intro k x0 x1
    have hk : k = R - 1 := by omega
    subst hk
    have hri := hR.1 i i0 (by omega)
    have hS := St_14 hS (r' := drf r i (R - 1)) (fun q e => drf_k e)
    have hS2 := St_14 hS (r' := gset (drf r i (R - 1)) 14 0 (R - 1) (r 14 0 i)) (fun q e => gset_kf e)
    refine o_iload_n (n := 31) rfl rfl rfl ?_
    refine o_aload_n (n := 32) rfl rfl rfl ?_
    refine o_geti (n := 35) rfl rfl rfl rfl rfl ?_
    refine o_iconst (n := 36) rfl rfl ?_
    refine o_isub (n := 37) rfl rfl (by omega) ?_
    refine o_icmp_ge (n := 40) (t := 60) rfl rfl rfl (fun z37 => ?_) (fun z37 => (by exfalso; omega))
    refine o_aload_n (n := 61) rfl rfl rfl ?_
    refine of_7_2 (n := 64) hS rfl rfl ?_
    refine o_aload_n (n := 65) rfl rfl rfl ?_
    refine o_geti (n := 68) rfl rfl rfl rfl rfl ?_
    rw [eR]
    refine o_iconst (n := 69) rfl rfl ?_
    refine o_isub (n := 70) rfl rfl (by omega) ?_
    refine o_aload_n (n := 71) rfl rfl rfl ?_
    refine o_rast (n := 72) (L := 8) rfl rfl rfl rfl rfl rfl (by omega) (by omega) (ok_2 (by omega) (by omega)) ?_
    refine o_aload_n (n := 73) rfl rfl rfl ?_
    refine o_dup (n := 74) rfl rfl rfl ?_
    refine o_geti (n := 77) rfl rfl rfl rfl rfl ?_
    rw [eR]
    refine o_iconst (n := 78) rfl rfl ?_
    refine o_isub (n := 79) rfl rfl (by omega) ?_
    refine o_puti (n := 82) rfl rfl rfl rfl rfl ?_
    refine o_aload_n (n := 83) rfl rfl rfl ?_
    refine o_geti (n := 86) rfl rfl rfl rfl rfl ?_
    rw [gset_at]
    refine o_iret rfl rfl ?_
    first | (exfalso; omega; done) | exact ⟨rfl, rfl, rfl⟩
  | succ m ih =>
    intro k x0 x1
    have hS := St_14 hS (r' := drf r i k) (fun q e => drf_k e)
    have hR2 := drf_R (i := i) (k := k) hR (by omega)
    have hRn := hR.1 (k + 1) (by omega) (by omega)
    have hR := hR2
    refine o_iload_n (n := 31) rfl rfl rfl ?_
    refine o_aload_n (n := 32) rfl rfl rfl ?_
    refine o_geti (n := 35) rfl rfl rfl rfl rfl ?_
    refine o_iconst (n := 36) rfl rfl ?_
    refine o_isub (n := 37) rfl rfl (by omega) ?_
    refine o_icmp_ge (n := 40) (t := 60) rfl rfl rfl (fun z37 => (by exfalso; omega)) (fun z37 => ?_)
    refine o_aload_n (n := 41) rfl rfl rfl ?_
    refine of_7_2 (n := 44) hS rfl rfl ?_
    refine o_iload_n (n := 45) rfl rfl rfl ?_
    refine o_aload_n (n := 46) rfl rfl rfl ?_
    refine of_7_2 (n := 49) hS rfl rfl ?_
    refine o_iload_n (n := 50) rfl rfl rfl ?_
    refine o_iconst (n := 51) rfl rfl ?_
    refine o_iadd (n := 52) rfl rfl (by omega) ?_
    refine o_ra14 (n := 53) hR rfl rfl (by omega) (by omega) (fun hA52 hB52 => ?_)
    rw [drf_o (show k + 1 < i ∨ k ≤ k + 1 by omega)]
    refine o_rast (n := 54) (L := 8) rfl rfl rfl rfl rfl rfl (by omega) (by omega) (ok_2 (by omega) (by omega)) ?_
    refine o_iinc_3 (n := 57) rfl rfl rfl (by omega) ?_
    refine o_goto (t := 30) rfl rfl ?_
    rw [drf_s x0]
    exact ih (k + 1) (by omega) (by omega)
theorem c7_drop (i : Int) (hI : Iv c g g r) : Ou 50 0 (am_ini 50 [vR 7 0, vI i]) [] g r (fun x g1 r1 => x = some (vI (drA g i)) ∧ ((¬ drok g i ∧ g1 = g ∧ r1 = r) ∨ (drok g i ∧ g1 = gset g 7 0 10 (g 8 0 8 - 1) ∧ r1 = Drr r i (g 8 0 8)))) := by
  show Ou 50 0 [vR 7 0, vI i, vN, vN] [] g r _
  obtain ⟨⟨hS, hR, h6, hP⟩, hsg, htx, hru, hwd, hnw, hst, hsh, hla⟩ := id hI
  obtain ⟨sg1, sg2, sg3⟩ := hI.2.1
  obtain ⟨tx1, tx2, tx3, tx4⟩ := hI.2.2.1
  have ru0 : g 7 0 10 = g 8 0 8 := hI.2.2.2.1.1.1
  have ru1 := hI.2.2.2.1.2.1.1
  have wd0 : g 1 0 1 = g 8 0 14 := hI.2.2.2.2.1.1.1
  have wd1 := hI.2.2.2.2.1.2.1.1
  have wd2 := hI.2.2.2.2.1.2.2
  have nw0 : g 0 0 0 = g 27 0 8 := hI.2.2.2.2.2.1.1.1
  have nw1 : g 0 0 1 = g 28 0 8 := hI.2.2.2.2.2.1.1.2.1
  have nw2 := hI.2.2.2.2.2.1.2.1
  have nw3 := hI.2.2.2.2.2.1.2.2.1
  have st0 := hI.2.2.2.2.2.2.1.1
  have st1 := hI.2.2.2.2.2.2.1.2.1
  have st2 := hI.2.2.2.2.2.2.1.2.2.1
  have la0 : g 7 0 13 = g 8 0 4 := hI.2.2.2.2.2.2.2.2
  refine o_aload_n (n := 1) rfl rfl rfl ?_
  refine o_iload_n (n := 2) rfl rfl rfl ?_
  refine o_invi (n := 5) rfl rfl rfl rfl rfl rfl rfl rfl rfl rfl (c7_isRule _) ?_
  refine o_ifb_ne (n := 8) (t := 11) rfl rfl rfl (fun z5 => ?_) (fun z5 => ?_)
  · refine o_aload_n (n := 12) rfl rfl rfl ?_
    refine o_geti (n := 15) rfl rfl rfl rfl rfl ?_
    refine o_if_le (n := 18) (t := 21) rfl rfl rfl (fun z15 => ?_) (fun z15 => ?_)
    · refine o_aload_n (n := 22) rfl rfl rfl ?_
      refine of_7_2 (n := 25) hS rfl rfl ?_
      refine o_iload_n (n := 26) rfl rfl rfl ?_
      refine o_ra14 (n := 27) hR rfl rfl (by omega) (by omega) (fun hA26 hB26 => ?_)
      refine o_astore_2 (n := 28) rfl rfl rfl ?_
      refine o_iload_n (n := 29) rfl rfl rfl ?_
      refine o_istore_3 (n := 30) rfl rfl rfl ?_
      have L := l7_drop (g := g) (r := r) (i := i) (R := g 8 0 8) hS hR ru0 (by omega) (by omega) (by omega) (g 8 0 8 - 1 - i).toNat i (by omega) (by omega)
      rw [drf_0] at L
      obtain ⟨n9, v9, g9, r9, w1, w2, w3, w4⟩ := L
      refine ⟨n9, v9, g9, r9, w1, ?_, Or.inr ⟨⟨by omega, by omega⟩, w3, w4⟩⟩
      rw [w2]
      unfold drA
      rw [cif_t (by omega), cif_f (by omega)]
    · refine o_bipush (n := 20) rfl rfl ?_
      refine o_iret rfl rfl ?_
      first
        | (exfalso; omega; done)
        | (have hn : ¬ drok g i := fun w => by have := w.1; have := w.2; omega
           refine ⟨?_, Or.inl ⟨hn, rfl, rfl⟩⟩
           unfold drA
           first | rw [cif_f (by omega)] | rw [cif_t (by omega), cif_t (by omega)])
  · refine o_bipush (n := 10) rfl rfl ?_
    refine o_iret rfl rfl ?_
    first
      | (exfalso; omega; done)
      | (have hn : ¬ drok g i := fun w => by have := w.1; have := w.2; omega
         refine ⟨?_, Or.inl ⟨hn, rfl, rfl⟩⟩
         unfold drA
         first | rw [cif_f (by omega)] | rw [cif_t (by omega), cif_t (by omega)])
theorem l8_dri (hS : am_St r) {k : Int} (k0 : 0 ≤ k) (k7 : k < 7) {Q : Option AV → GI → GI → Prop} : ∀ (m : Nat) (n : Int), (0 ≤ n) → (n + m = 12) → (Ou 130 80 [vR 8 0, vI i, vI k, vI 12] [] (gcpy g1 22 0 (12 * k + 12) 22 0 (12 * k) 12) r Q) → Ou 130 43 [vR 8 0, vI i, vI k, vI n] [] (gcpy g1 22 0 (12 * k + 12) 22 0 (12 * k) n) r Q := by
  intro m
  induction m with
  | zero =>
    intro n x0 x1 kQ
    have hn : n = 12 := by omega
    subst hn
    refine o_iload_n (n := 44) rfl rfl rfl ?_
    refine o_bipush (n := 46) rfl rfl ?_
    refine o_icmp_ge (n := 49) (t := 80) rfl rfl rfl (fun z46 => ?_) (fun z46 => (by exfalso; omega))
    exact kQ
  | succ m ih =>
    intro n x0 x1 kQ
    refine o_iload_n (n := 44) rfl rfl rfl ?_
    refine o_bipush (n := 46) rfl rfl ?_
    refine o_icmp_ge (n := 49) (t := 80) rfl rfl rfl (fun z46 => (by exfalso; omega)) (fun z46 => ?_)
    refine o_aload_n (n := 50) rfl rfl rfl ?_
    refine of_8_9 (n := 53) hS rfl rfl ?_
    refine o_bipush (n := 55) rfl rfl ?_
    refine o_iload_n (n := 56) rfl rfl rfl ?_
    refine o_imul (n := 57) rfl rfl (by omega) ?_
    refine o_iload_n (n := 58) rfl rfl rfl ?_
    refine o_iadd (n := 59) rfl rfl (by omega) ?_
    refine o_aload_n (n := 60) rfl rfl rfl ?_
    refine of_8_9 (n := 63) hS rfl rfl ?_
    refine o_bipush (n := 65) rfl rfl ?_
    refine o_iload_n (n := 66) rfl rfl rfl ?_
    refine o_imul (n := 67) rfl rfl (by omega) ?_
    refine o_bipush (n := 69) rfl rfl ?_
    refine o_iadd (n := 70) rfl rfl (by omega) ?_
    refine o_iload_n (n := 71) rfl rfl rfl ?_
    refine o_iadd (n := 72) rfl rfl (by omega) ?_
    refine o_iald (n := 73) (L := 96) rfl rfl rfl rfl rfl (by omega) (by omega) ?_
    refine o_iast (n := 74) (L := 96) rfl rfl rfl rfl rfl (by omega) (by omega) ?_
    refine o_iinc_3 (n := 77) rfl rfl rfl (by omega) ?_
    refine o_goto (t := 43) rfl rfl ?_
    rw [gcpy_s x0 (by omega)]
    exact ih (n + 1) (by omega) (by omega) kQ
theorem l8_drop (hS : am_St r) (i0 : 0 ≤ i) (i1 : i < R) (R1 : R ≤ 8) : ∀ (m : Nat) (k : Int) (t : AV) (g1 : GI), (i ≤ k) → (k + m = R - 1) → (Dq g g1 i R k) → Ou 130 33 [vR 8 0, vI i, vI k, t] [] g1 r (fun x g2 r2 => x = some (vI (R - 1)) ∧ r2 = r ∧ Dq g g2 i R (R - 1)) := by
  intro m
  induction m with
  | zero =>
    intro k t g1 x0 x1 D
    obtain ⟨d1, d2, d3, d4, d5, d6, d7⟩ := id D
    refine o_iload_n (n := 34) rfl rfl rfl ?_
    refine o_aload_n (n := 35) rfl rfl rfl ?_
    refine o_geti (n := 38) rfl rfl rfl rfl rfl ?_
    refine o_icmp_ge (n := 41) (t := 176) rfl rfl rfl (fun z38 => ?_) (fun z38 => (by exfalso; omega))
    refine o_aload_n (n := 177) rfl rfl rfl ?_
    refine o_geti (n := 180) rfl rfl rfl rfl rfl ?_
    rw [d3]
    refine o_iret rfl rfl ?_
    have hk : k = R - 1 := by omega
    subst hk
    exact ⟨rfl, rfl, D⟩
  | succ m ih =>
    intro k t g1 x0 x1 D
    obtain ⟨d1, d2, d3, d4, d5, d6, d7⟩ := id D
    have hsr : ∀ j, 0 ≤ j → j < 8 → (bt (am_or (g1 8 0 12) (am_shl 1 k)) j ↔ (bt (g1 8 0 12) j ∨ j = k)) := fun j j0 j1 => by rw [bt_or j0 (by omega), bt_shl (by omega) (by omega) j0 (by omega)]
    have hsa : ∀ j, 0 ≤ j → j < 8 → (bt (am_and (g1 8 0 12) (am_xor (am_shl 1 k) (-1))) j ↔ (bt (g1 8 0 12) j ∧ ¬ j = k)) := fun j j0 j1 => by rw [bt_and j0 (by omega), bt_not j0 (by omega), bt_shl (by omega) (by omega) j0 (by omega)]
    have hkk : k < 7 → (bt (g1 8 0 12) (k + 1) ↔ bt (g 8 0 12) (k + 1)) := fun k7 => by
      rw [d7 (k + 1) (by omega) (by omega), cif_f (by omega)]
    have e23 : ∀ s, 2 * k ≤ s → g1 23 0 s = g 23 0 s := fun s hs => by rw [d5, cif_f (by omega)]
    have e24 : g1 24 0 (k + 1) = g 24 0 (k + 1) := by rw [d6, cif_f (by omega)]
    have hb1 : bt (g1 8 0 12) (k + 1) ↔ bt (g 8 0 12) (k + 1) := hkk (by omega)
    refine o_iload_n (n := 34) rfl rfl rfl ?_
    refine o_aload_n (n := 35) rfl rfl rfl ?_
    refine o_geti (n := 38) rfl rfl rfl rfl rfl ?_
    refine o_icmp_ge (n := 41) (t := 176) rfl rfl rfl (fun z38 => (by exfalso; omega)) (fun z38 => ?_)
    refine o_iconst (n := 42) rfl rfl ?_
    refine o_istore_3 (n := 43) rfl rfl rfl ?_
    have L9 : ∀ Q, Ou 130 80 [vR 8 0, vI i, vI k, vI 12] [] (gcpy g1 22 0 (12 * k + 12) 22 0 (12 * k) 12) r Q → Ou 130 43 [vR 8 0, vI i, vI k, vI 0] [] g1 r Q := fun Q kQ => by
      have := l8_dri (g1 := g1) (r := r) (i := i) hS (k := k) (by omega) (by omega) 12 0 (by omega) (by omega) kQ
      rw [gcpy_0] at this
      exact this
    refine L9 _ ?_
    refine o_aload_n (n := 81) rfl rfl rfl ?_
    refine of_8_10 (n := 84) hS rfl rfl ?_
    refine o_iconst (n := 85) rfl rfl ?_
    refine o_iload_n (n := 86) rfl rfl rfl ?_
    refine o_imul (n := 87) rfl rfl (by omega) ?_
    refine o_aload_n (n := 88) rfl rfl rfl ?_
    refine of_8_10 (n := 91) hS rfl rfl ?_
    refine o_iconst (n := 92) rfl rfl ?_
    refine o_iload_n (n := 93) rfl rfl rfl ?_
    refine o_imul (n := 94) rfl rfl (by omega) ?_
    refine o_iconst (n := 95) rfl rfl ?_
    refine o_iadd (n := 96) rfl rfl (by omega) ?_
    refine o_iald (n := 97) (L := 16) rfl rfl rfl rfl rfl (by omega) (by omega) ?_
    rw [gcpy_kf (by decide), e23 _ (by omega)]
    refine o_iast (n := 98) (L := 16) rfl rfl rfl rfl rfl (by omega) (by omega) ?_
    refine o_aload_n (n := 99) rfl rfl rfl ?_
    refine of_8_10 (n := 102) hS rfl rfl ?_
    refine o_iconst (n := 103) rfl rfl ?_
    refine o_iload_n (n := 104) rfl rfl rfl ?_
    refine o_imul (n := 105) rfl rfl (by omega) ?_
    refine o_iconst (n := 106) rfl rfl ?_
    refine o_iadd (n := 107) rfl rfl (by omega) ?_
    refine o_aload_n (n := 108) rfl rfl rfl ?_
    refine of_8_10 (n := 111) hS rfl rfl ?_
    refine o_iconst (n := 112) rfl rfl ?_
    refine o_iload_n (n := 113) rfl rfl rfl ?_
    refine o_imul (n := 114) rfl rfl (by omega) ?_
    refine o_iconst (n := 115) rfl rfl ?_
    refine o_iadd (n := 116) rfl rfl (by omega) ?_
    refine o_iald (n := 117) (L := 16) rfl rfl rfl rfl rfl (by omega) (by omega) ?_
    rw [gset_s (by omega), gcpy_kf (by decide), e23 _ (by omega)]
    refine o_iast (n := 118) (L := 16) rfl rfl rfl rfl rfl (by omega) (by omega) ?_
    refine o_aload_n (n := 119) rfl rfl rfl ?_
    refine of_8_11 (n := 122) hS rfl rfl ?_
    refine o_iload_n (n := 123) rfl rfl rfl ?_
    refine o_aload_n (n := 124) rfl rfl rfl ?_
    refine of_8_11 (n := 127) hS rfl rfl ?_
    refine o_iload_n (n := 128) rfl rfl rfl ?_
    refine o_iconst (n := 129) rfl rfl ?_
    refine o_iadd (n := 130) rfl rfl (by omega) ?_
    refine o_iald (n := 131) (L := 8) rfl rfl rfl rfl rfl (by omega) (by omega) ?_
    rw [gset_k rfl, gset_k rfl, gcpy_kf (by decide), e24]
    refine o_iast (n := 132) (L := 8) rfl rfl rfl rfl rfl (by omega) (by omega) ?_
    refine o_aload_n (n := 133) rfl rfl rfl ?_
    refine o_aload_n (n := 134) rfl rfl rfl ?_
    refine o_geti (n := 137) rfl rfl rfl rfl rfl ?_
    rw [gset_k rfl, gset_k rfl, gset_k rfl, gcpy_kf (by decide)]
    refine o_iload_n (n := 138) rfl rfl rfl ?_
    refine o_iconst (n := 139) rfl rfl ?_
    refine o_iadd (n := 140) rfl rfl (by omega) ?_
    refine o_invsi (n := 143) rfl rfl rfl rfl rfl rfl (c8_isIn _ _) ?_
    refine o_ifb_eq (n := 146) (t := 157) rfl rfl rfl (fun z143 => ?_) (fun z143 => ?_)
    · refine o_aload_n (n := 158) rfl rfl rfl ?_
      refine o_geti (n := 161) rfl rfl rfl rfl rfl ?_
      rw [gset_k rfl, gset_k rfl, gset_k rfl, gcpy_kf (by decide)]
      refine o_iconst (n := 162) rfl rfl ?_
      refine o_iload_n (n := 163) rfl rfl rfl ?_
      refine o_ishl (n := 164) rfl rfl ?_
      refine o_iconst (n := 165) rfl rfl ?_
      refine o_ixor (n := 166) rfl rfl ?_
      refine o_iand (n := 167) rfl rfl ?_
      refine o_puti (n := 170) rfl rfl rfl rfl rfl ?_
      refine o_iinc_2 (n := 173) rfl rfl rfl (by omega) ?_
      refine o_goto (t := 33) rfl rfl ?_
      refine ih (k + 1) _ _ (by omega) (by omega) ?_
      refine Dq_s D i0 x0 (by omega) (fun j j0 j1 => ?_) hb1
      first
        | (rw [hsr j j0 j1]
           by_cases e : j = k
           · rw [cif_t e]; exact ⟨fun _ => z143, fun _ => Or.inr e⟩
           · rw [cif_f e]; exact ⟨fun w => by
               rcases w with w | w
               · exact w
               · exact absurd w e, fun w => Or.inl w⟩)
        | (rw [hsa j j0 j1]
           by_cases e : j = k
           · rw [cif_t e]; exact ⟨fun w => absurd e w.2, fun w => absurd w z143⟩
           · rw [cif_f e]; exact ⟨fun w => w.1, fun w => ⟨w, e⟩⟩)
    · refine o_aload_n (n := 147) rfl rfl rfl ?_
      refine o_geti (n := 150) rfl rfl rfl rfl rfl ?_
      rw [gset_k rfl, gset_k rfl, gset_k rfl, gcpy_kf (by decide)]
      refine o_iconst (n := 151) rfl rfl ?_
      refine o_iload_n (n := 152) rfl rfl rfl ?_
      refine o_ishl (n := 153) rfl rfl ?_
      refine o_ior (n := 154) rfl rfl ?_
      refine o_goto (t := 167) rfl rfl ?_
      refine o_puti (n := 170) rfl rfl rfl rfl rfl ?_
      refine o_iinc_2 (n := 173) rfl rfl rfl (by omega) ?_
      refine o_goto (t := 33) rfl rfl ?_
      refine ih (k + 1) _ _ (by omega) (by omega) ?_
      refine Dq_s D i0 x0 (by omega) (fun j j0 j1 => ?_) hb1
      first
        | (rw [hsr j j0 j1]
           by_cases e : j = k
           · rw [cif_t e]; exact ⟨fun _ => z143, fun _ => Or.inr e⟩
           · rw [cif_f e]; exact ⟨fun w => by
               rcases w with w | w
               · exact w
               · exact absurd w e, fun w => Or.inl w⟩)
        | (rw [hsa j j0 j1]
           by_cases e : j = k
           · rw [cif_t e]; exact ⟨fun w => absurd e w.2, fun w => absurd w z143⟩
           · rw [cif_f e]; exact ⟨fun w => w.1, fun w => ⟨w, e⟩⟩)
variable {g0 r0 : GI}
theorem c8_drop (i : Int) (hI : Iv c g0 g r0) (hS : am_St r) : Ou 130 0 (am_ini 130 [vR 8 0, vI i]) [] g r (fun x g2 r1 => x = some (vI (drA g i)) ∧ r1 = r ∧ ((¬ drok g i ∧ g2 = g) ∨ (drok g i ∧ Dq g g2 i (g 8 0 8) (g 8 0 8 - 1)))) := by
  show Ou 130 0 [vR 8 0, vI i, vN, vN] [] g r _
  obtain ⟨⟨hS0, hR, h6, hP⟩, hsg, htx, hru, hwd, hnw, hst, hsh, hla⟩ := id hI
  obtain ⟨sg1, sg2, sg3⟩ := hI.2.1
  obtain ⟨tx1, tx2, tx3, tx4⟩ := hI.2.2.1
  have ru0 : g0 7 0 10 = g 8 0 8 := hI.2.2.2.1.1.1
  have ru1 := hI.2.2.2.1.2.1.1
  have wd0 : g0 1 0 1 = g 8 0 14 := hI.2.2.2.2.1.1.1
  have wd1 := hI.2.2.2.2.1.2.1.1
  have wd2 := hI.2.2.2.2.1.2.2
  have nw0 : g0 0 0 0 = g 27 0 8 := hI.2.2.2.2.2.1.1.1
  have nw1 : g0 0 0 1 = g 28 0 8 := hI.2.2.2.2.2.1.1.2.1
  have nw2 := hI.2.2.2.2.2.1.2.1
  have nw3 := hI.2.2.2.2.2.1.2.2.1
  have st0 := hI.2.2.2.2.2.2.1.1
  have st1 := hI.2.2.2.2.2.2.1.2.1
  have st2 := hI.2.2.2.2.2.2.1.2.2.1
  have la0 : g0 7 0 13 = g 8 0 4 := hI.2.2.2.2.2.2.2.2
  refine o_aload_n (n := 1) rfl rfl rfl ?_
  refine o_iload_n (n := 2) rfl rfl rfl ?_
  refine o_invi (n := 5) rfl rfl rfl rfl rfl rfl rfl rfl rfl rfl (c8_isRule _ (by omega) (by omega)) ?_
  refine o_ifb_ne (n := 8) (t := 11) rfl rfl rfl (fun z5 => ?_) (fun z5 => ?_)
  · refine o_aload_n (n := 12) rfl rfl rfl ?_
    refine o_geti (n := 15) rfl rfl rfl rfl rfl ?_
    refine o_if_le (n := 18) (t := 21) rfl rfl rfl (fun z15 => ?_) (fun z15 => ?_)
    · refine o_aload_n (n := 22) rfl rfl rfl ?_
      refine o_dup (n := 23) rfl rfl rfl ?_
      refine o_geti (n := 26) rfl rfl rfl rfl rfl ?_
      refine o_iconst (n := 27) rfl rfl ?_
      refine o_isub (n := 28) rfl rfl (by omega) ?_
      refine o_puti (n := 31) rfl rfl rfl rfl rfl ?_
      refine o_iload_n (n := 32) rfl rfl rfl ?_
      refine o_istore_2 (n := 33) rfl rfl rfl ?_
      obtain ⟨n9, v9, g9, r9, w1, w2, w3, w4⟩ := l8_drop (g := g) (r := r) (i := i) (R := g 8 0 8) hS (by omega) (by omega) (by omega) (g 8 0 8 - 1 - i).toNat i vN (gset g 8 0 8 (g 8 0 8 - 1)) (by omega) (by omega) ⟨fun q x _ _ _ => gset_kf x, fun s x _ => gset_s x, gset_at, fun s => by rw [cif_f (by omega)]; rfl, fun s => by rw [cif_f (by omega)]; rfl, fun s => by rw [cif_f (by omega)]; rfl, fun j j0 j1 => by rw [cif_f (by omega)]; exact Iff.rfl⟩
      refine ⟨n9, v9, g9, r9, w1, ?_, w3, Or.inr ⟨⟨by omega, by omega⟩, w4⟩⟩
      rw [w2]
      unfold drA
      rw [cif_t (by omega), cif_f (by omega)]
    · refine o_bipush (n := 20) rfl rfl ?_
      refine o_iret rfl rfl ?_
      first
        | (exfalso; omega; done)
        | (have hn : ¬ drok g i := fun w => by have := w.1; have := w.2; omega
           refine ⟨?_, rfl, Or.inl ⟨hn, rfl⟩⟩
           unfold drA
           first | rw [cif_f (by omega)] | rw [cif_t (by omega), cif_t (by omega)])
  · refine o_bipush (n := 10) rfl rfl ?_
    refine o_iret rfl rfl ?_
    first
      | (exfalso; omega; done)
      | (have hn : ¬ drok g i := fun w => by have := w.1; have := w.2; omega
         refine ⟨?_, rfl, Or.inl ⟨hn, rfl⟩⟩
         unfold drA
         first | rw [cif_f (by omega)] | rw [cif_t (by omega), cif_t (by omega)])
end DROP
theorem p_drop (i : Int) : Pr 50 130 [vI i] := by
  intro c g r c0 c1 hI
  obtain ⟨n1, v1, g1, r1, e1, e2, e3⟩ := c7_drop i hI
  subst e2
  refine ⟨n1, _, _, _, e1, ?_⟩
  rcases e3 with ⟨hn, eg, er⟩ | ⟨ho, eg, er⟩
  · subst eg
    subst er
    obtain ⟨v2, g2, r2, d1, d2, d3, d4⟩ := rt_ex (c8_drop i hI hI.1.1)
    subst d2; subst d3
    rcases d4 with ⟨_, eg2⟩ | ⟨ho, _⟩
    · subst eg2
      exact ⟨_, _, d1, Iv_up hI, rfl, rfl⟩
    · exact absurd ho hn
  · have hM : ∀ k, isM k → g1 k = g k := fun k hk => by
      unfold isM at hk
      rw [eg, gset_kf (by omega)]
    have m8 := hM 8 (by unfold isM; omega)
    have eA : drA g1 i = drA g i := by unfold drA; rw [m8]
    have hR8 := hI.2.2.2.1.2.1.1
    have hIr : Ir r1 := by rw [er]; exact Drr_Ir ho.1.1 ho.1.2 hR8.2 hI.1
    obtain ⟨v2, g2, r2, d1, d2, d3, d4⟩ := rt_ex (c8_drop (g := g1) (r := r1) i (Iv_h hM hI) hIr.1)
    subst d2; subst d3
    rw [eA] at d1
    rcases d4 with ⟨hn, _⟩ | ⟨_, D⟩
    · exact absurd (by unfold drok; rw [m8]; exact ho) hn
    · have I2 := Iv_drop (c := c) (c' := c + 1) (by omega) (Iv_h hM hI) (by rw [m8]; exact ho.2) rfl ho.1.1 (by rw [m8]; exact ho.1.2) D
      rw [m8, ← eg, ← er] at I2
      have dk : ∀ k, ¬ isM k → g2 k = g1 k := fun k hk => D.1 k (by unfold isM at hk; omega) (by unfold isM at hk; omega) (by unfold isM at hk; omega) (by unfold isM at hk; omega)
      have I3 : Iv (c + 1) g2 g2 r2 := Iv_G (Int.le_refl _) (fun k hk => dk k (by unfold isM; omega)) (Ag_refl _) (fun _ _ => rfl) hIr.2.2.1 I2
      exact ⟨g2, _, d1, I3, (dk 34 (by unfold isM; omega)).trans (by rw [eg]; exact gset_kf (by decide)), (dk 35 (by unfold isM; omega)).trans (by rw [eg]; exact gset_kf (by decide))⟩
