/-! digest, the component's. Written by wip/gen/gen64.py -/
def mx (h x : Int) : Int := am_wl (am_wl (31 * h) + x)
def fd (f : Int → Int) : Nat → Int → Int → Int
  | 0, _, a => a
  | n + 1, k, a => fd f n (k + 1) (mx a (f k))
def fq (T : Int → Int → Int) : Nat → Int → Int → Int
  | 0, _, a => a
  | n + 1, k, a => fq T n (k + 1) (T k a)
def en8 (g : GI) (d s x y : Int) : Int := g 26 0 (36 * d + 9 * s + 3 * x + y)
noncomputable def rT (g : GI) (i a : Int) : Int := mx (mx (mx (mx (fd (fun w => inu g i w) 6 0 a) (sdu g i 0 (-1))) (sdu g i 0 0)) (sdu g i 1 (-1))) (vlu g i 0 0 0)
def sT (g : GI) (s a : Int) : Int := fq (fun x a => fd (fun y => en8 g 8 s x y) 2 0 a) 2 0 a
noncomputable def kT (g : GI) (k a : Int) : Int := mx (mx (fd (fun w => sgu g k w) 4 0 a) (msu g k)) (en8 g k 0 0 0)
noncomputable def dg0 (g : GI) : Int := mx (mx (mx (mx (fd (cnS g) 8 0 17) (frS g)) (fwS g)) (soS g)) (edS g)
noncomputable def dg1 (g : GI) : Int := fq (rT g) (g 8 0 8).toNat 0 (dg0 g)
noncomputable def dg2 (g : GI) : Int := fq (sT g) (g 8 0 5).toNat 0 (dg1 g)
noncomputable def dg3 (g : GI) : Int := fq (kT g) (g 8 0 19).toNat 0 (dg2 g)
noncomputable def dgS (g : GI) : Int := fd (ltu g) 25 (-1) (mx (dg3 g) (msu g 8))
theorem FJ_M {g r g1 r1 : GI} (f : FJ g r g1 r1) : ∀ k, isM k → k ≠ 30 → k ≠ 31 → k ≠ 32 → g1 k = g k := fun k hk _ _ _ => f.1 k (isM_ne hk (by decide)) (isM_ne hk (by decide))
theorem F8_M {g g1 : GI} (f : F8 g g1) : ∀ k, isM k → k ≠ 30 → k ≠ 31 → k ≠ 32 → g1 k = g k := fun k _ a b c => f k a b c
theorem u7 {c : Int} {g r g1 r1 : GI} {m : Nat} {as : List AV} {w : GI → Int} (h : C7 m as (fun g => vI (w g))) (hm : Mf (fun g => vI (w g))) (c0 : 0 ≤ c) (c1 : c ≤ 3072) (hI : Iv c g g r) (f : FJ g r g1 r1) : ∃ g2 r2, Rt m (vR 7 0 :: as) g1 r1 (some (vI (w g))) g2 r2 ∧ FJ g r g2 r2 := by
  obtain ⟨v, g2, r2, hc, e, f2⟩ := rt_ex (h c g1 r1 c0 c1 (Iv_FJ f hI))
  have e2 : vI (w g1) = vI (w g) := hm g g1 (FJ_M f)
  have e3 : v = some (vI (w g1)) := e
  rw [e3, e2] at hc
  exact ⟨g2, r2, hc, FJ_tr f f2⟩
theorem enS_m (s x y : Int) : Mf (fun g => vI (enS g s x y)) := fun g h hm => by
  show vI (enS h s x y) = vI (enS g s x y)
  unfold enS
  rw [hm 8 (Or.inl rfl) (by decide) (by decide) (by decide), hm 26 (Or.inr (by decide)) (by decide) (by decide) (by decide)]
theorem kpS_m (k s x y : Int) : Mf (fun g => vI (kpS g k s x y)) := fun g h hm => by
  show vI (kpS h k s x y) = vI (kpS g k s x y)
  unfold kpS
  rw [hm 8 (Or.inl rfl) (by decide) (by decide) (by decide), hm 26 (Or.inr (by decide)) (by decide) (by decide) (by decide)]
theorem sdS_m (i s k : Int) : Mf (fun g => vI (sdS g i s k)) := fun g h hm => by
  show vI (sdS h i s k) = vI (sdS g i s k)
  unfold sdS sdu
  rw [hm 8 (Or.inl rfl) (by decide) (by decide) (by decide), hm 22 (Or.inr (by decide)) (by decide) (by decide) (by decide), hm 23 (Or.inr (by decide)) (by decide) (by decide) (by decide)]
theorem ltS_m (k : Int) : Mf (fun g => vI (ltS g k)) := fun g h hm => by
  show vI (ltS h k) = vI (ltS g k)
  unfold ltS ltu
  rw [hm 8 (Or.inl rfl) (by decide) (by decide) (by decide), hm 25 (Or.inr (by decide)) (by decide) (by decide) (by decide)]
theorem soS_m : Mf (fun g => vI (soS g)) := fun g h hm => by
  show vI (soS h) = vI (soS g)
  unfold soS
  rw [hm 8 (Or.inl rfl) (by decide) (by decide) (by decide), hm 27 (Or.inr (by decide)) (by decide) (by decide) (by decide), hm 28 (Or.inr (by decide)) (by decide) (by decide) (by decide), E8_m (hm 26 (Or.inr (by decide)) (by decide) (by decide) (by decide))]
section DIGEST7
variable {c : Int} {g r : GI}
theorem l7_mr1 (c0 : 0 ≤ c) (c1 : c ≤ 3072) (hI : Iv c g g r) {b i Z : Int} (i0 : 0 ≤ i) (i1 : i < g 8 0 8) : ∀ (m : Nat) (w a : Int) (g1 r1 : GI), (0 ≤ w) → (w + m = 6) → (FJ g r g1 r1) → (∀ g1 r1, FJ g r g1 r1 → Ou 81 42 [vR 7 0, vL b, vN, vL (fd (fun w => inu g i w) m w a), vN, vI i, vI 6] [] g1 r1 (fun x g2 r2 => x = some (vL (Z)) ∧ FJ g r g2 r2)) → Ou 81 17 [vR 7 0, vL b, vN, vL a, vN, vI i, vI w] [] g1 r1 (fun x g2 r2 => x = some (vL (Z)) ∧ FJ g r g2 r2) := by
  intro m
  induction m with
  | zero =>
    intro w a g1 r1 i2 i3 f kQ
    have hw : w = 6 := by omega
    subst hw
    refine o_iload (n := 19) rfl rfl rfl ?_
    refine o_iconst (n := 20) rfl rfl ?_
    refine o_icmp_gt (n := 23) (t := 42) rfl rfl rfl (fun z20 => ?_) (fun z20 => (by exfalso; omega))
    exact kQ _ _ f
  | succ m ih =>
    intro w a g1 r1 i2 i3 f kQ
    refine o_iload (n := 19) rfl rfl rfl ?_
    refine o_iconst (n := 20) rfl rfl ?_
    refine o_icmp_gt (n := 23) (t := 42) rfl rfl rfl (fun z20 => (by exfalso; omega)) (fun z20 => ?_)
    refine o_lload_n (n := 24) rfl rfl rfl ?_
    refine o_aload_n (n := 25) rfl rfl rfl ?_
    refine o_iload (n := 27) rfl rfl rfl ?_
    refine o_iload (n := 29) rfl rfl rfl ?_
    obtain ⟨g2, r2, hc2, f⟩ := u7 (C7_info i w) (inS_m i w) c0 c1 hI f
    refine o_invi (n := 32) rfl rfl rfl rfl rfl rfl rfl rfl rfl rfl (hc2) ?_
    rw [show inS g i w = inu g i w from cif_t (by omega)]
    refine o_invsi (n := 35) rfl rfl rfl rfl rfl rfl (c7_mix _ _) ?_
    refine o_lstore_3 (n := 36) rfl rfl rfl ?_
    refine o_iinc_6 (n := 39) rfl rfl rfl (by omega) ?_
    refine o_goto (t := 17) rfl rfl ?_
    exact ih (w + 1) _ _ _ (by omega) (by omega) f kQ
theorem l7_mr (c0 : 0 ≤ c) (c1 : c ≤ 3072) (hI : Iv c g g r) {b : Int} : ∀ (m : Nat) (i a : Int) (t : AV) (g1 r1 : GI), (0 ≤ i) → (i + m = g 8 0 8) → (FJ g r g1 r1) → Ou 81 5 [vR 7 0, vL b, vN, vL a, vN, vI i, t] [] g1 r1 (fun x g2 r2 => x = some (vL (fq (rT g) m i a)) ∧ FJ g r g2 r2) := by
  intro m
  induction m with
  | zero =>
    intro i a t g1 r1 i0 i1 f
    have ru0 : g 7 0 10 = g 8 0 8 := hI.2.2.2.1.1.1
    have ru1 := hI.2.2.2.1.2.1.1
    have st0 := hI.2.2.2.2.2.2.1.1
    have st1 := hI.2.2.2.2.2.2.1.2.1
    have st2 := hI.2.2.2.2.2.2.1.2.2.1
    have sg := hI.2.1
    unfold Isg at sg
    have nw3 := hI.2.2.2.2.2.1.2.2.1
    have e7 := f.1 7 (by decide) (by decide)
    refine o_iload (n := 7) rfl rfl rfl ?_
    refine o_aload_n (n := 8) rfl rfl rfl ?_
    refine o_geti (n := 11) rfl rfl rfl rfl rfl ?_
    refine o_icmp_ge (n := 14) (t := 101) rfl rfl rfl (fun z11 => ?_) (fun z11 => (by exfalso; rw [e7] at z11; omega))
    refine o_lload_n (n := 102) rfl rfl rfl ?_
    refine o_lret rfl ?_
    first | (exfalso; omega; done) | exact ⟨rfl, f⟩
  | succ m ih =>
    intro i a t g1 r1 i0 i1 f
    have ru0 : g 7 0 10 = g 8 0 8 := hI.2.2.2.1.1.1
    have ru1 := hI.2.2.2.1.2.1.1
    have st0 := hI.2.2.2.2.2.2.1.1
    have st1 := hI.2.2.2.2.2.2.1.2.1
    have st2 := hI.2.2.2.2.2.2.1.2.2.1
    have sg := hI.2.1
    unfold Isg at sg
    have nw3 := hI.2.2.2.2.2.1.2.2.1
    have e7 := f.1 7 (by decide) (by decide)
    refine o_iload (n := 7) rfl rfl rfl ?_
    refine o_aload_n (n := 8) rfl rfl rfl ?_
    refine o_geti (n := 11) rfl rfl rfl rfl rfl ?_
    refine o_icmp_ge (n := 14) (t := 101) rfl rfl rfl (fun z11 => (by exfalso; rw [e7] at z11; omega)) (fun z11 => ?_)
    refine o_iconst (n := 15) rfl rfl ?_
    refine o_istore_6 (n := 17) rfl rfl rfl ?_
    refine l7_mr1 c0 c1 hI i0 (show i < g 8 0 8 by omega) 6 0 a _ _ (by omega) (by omega) f (fun g1 r1 f => ?_)
    refine o_lload_n (n := 43) rfl rfl rfl ?_
    refine o_aload_n (n := 44) rfl rfl rfl ?_
    refine o_iload (n := 46) rfl rfl rfl ?_
    refine o_iconst (n := 47) rfl rfl ?_
    refine o_iconst (n := 48) rfl rfl ?_
    obtain ⟨g2, r2, hc2, f⟩ := u7 (C7_side i 0 (-1)) (sdS_m i 0 (-1)) c0 c1 hI f
    refine o_invi (n := 51) rfl rfl rfl rfl rfl rfl rfl rfl rfl rfl (hc2) ?_
    rw [show sdS g i 0 (-1) = sdu g i 0 (-1) from cif_t (by omega)]
    refine o_invsi (n := 54) rfl rfl rfl rfl rfl rfl (c7_mix _ _) ?_
    refine o_lstore_3 (n := 55) rfl rfl rfl ?_
    refine o_lload_n (n := 56) rfl rfl rfl ?_
    refine o_aload_n (n := 57) rfl rfl rfl ?_
    refine o_iload (n := 59) rfl rfl rfl ?_
    refine o_iconst (n := 60) rfl rfl ?_
    refine o_iconst (n := 61) rfl rfl ?_
    obtain ⟨g2, r2, hc2, f⟩ := u7 (C7_side i 0 0) (sdS_m i 0 0) c0 c1 hI f
    refine o_invi (n := 64) rfl rfl rfl rfl rfl rfl rfl rfl rfl rfl (hc2) ?_
    rw [show sdS g i 0 0 = sdu g i 0 0 from cif_t (by omega)]
    refine o_invsi (n := 67) rfl rfl rfl rfl rfl rfl (c7_mix _ _) ?_
    refine o_lstore_3 (n := 68) rfl rfl rfl ?_
    refine o_lload_n (n := 69) rfl rfl rfl ?_
    refine o_aload_n (n := 70) rfl rfl rfl ?_
    refine o_iload (n := 72) rfl rfl rfl ?_
    refine o_iconst (n := 73) rfl rfl ?_
    refine o_iconst (n := 74) rfl rfl ?_
    obtain ⟨g2, r2, hc2, f⟩ := u7 (C7_side i 1 (-1)) (sdS_m i 1 (-1)) c0 c1 hI f
    refine o_invi (n := 77) rfl rfl rfl rfl rfl rfl rfl rfl rfl rfl (hc2) ?_
    rw [show sdS g i 1 (-1) = sdu g i 1 (-1) from cif_t (by omega)]
    refine o_invsi (n := 80) rfl rfl rfl rfl rfl rfl (c7_mix _ _) ?_
    refine o_lstore_3 (n := 81) rfl rfl rfl ?_
    refine o_lload_n (n := 82) rfl rfl rfl ?_
    refine o_aload_n (n := 83) rfl rfl rfl ?_
    refine o_iload (n := 85) rfl rfl rfl ?_
    refine o_iconst (n := 86) rfl rfl ?_
    refine o_iconst (n := 87) rfl rfl ?_
    refine o_iconst (n := 88) rfl rfl ?_
    obtain ⟨g2, r2, hc2, f⟩ := u7 (C7_value i 0 0 0) (vlS_m i 0 0 0) c0 c1 hI f
    refine o_invi (n := 91) rfl rfl rfl rfl rfl rfl rfl rfl rfl rfl (hc2) ?_
    rw [show vlS g i 0 0 0 = vlu g i 0 0 0 from cif_t (by omega)]
    refine o_invsi (n := 94) rfl rfl rfl rfl rfl rfl (c7_mix _ _) ?_
    refine o_lstore_3 (n := 95) rfl rfl rfl ?_
    refine o_iinc_5 (n := 98) rfl rfl rfl (by omega) ?_
    refine o_goto (t := 5) rfl rfl ?_
    exact ih (i + 1) _ _ _ _ (by omega) (by omega) f
theorem c7_mixRules (c0 : 0 ≤ c) (c1 : c ≤ 3072) (hI : Iv c g g r) {b : Int} {g1 r1 : GI} (f : FJ g r g1 r1) : Ou 81 0 (am_ini 81 [vR 7 0, vL b]) [] g1 r1 (fun x g2 r2 => x = some (vL (fq (rT g) (g 8 0 8).toNat 0 b)) ∧ FJ g r g2 r2) := by
  show Ou 81 0 [vR 7 0, vL b, vN, vN, vN, vN, vN] [] g1 r1 _
  have ru0 : g 7 0 10 = g 8 0 8 := hI.2.2.2.1.1.1
  have ru1 := hI.2.2.2.1.2.1.1
  have st0 := hI.2.2.2.2.2.2.1.1
  have st1 := hI.2.2.2.2.2.2.1.2.1
  have st2 := hI.2.2.2.2.2.2.1.2.2.1
  have sg := hI.2.1
  unfold Isg at sg
  have nw3 := hI.2.2.2.2.2.1.2.2.1
  refine o_lload_n (n := 1) rfl rfl rfl ?_
  refine o_lstore_3 (n := 2) rfl rfl rfl ?_
  refine o_iconst (n := 3) rfl rfl ?_
  refine o_istore_5 (n := 5) rfl rfl rfl ?_
  exact l7_mr c0 c1 hI (g 8 0 8).toNat 0 b _ _ _ (by omega) (by omega) f
theorem l7_ms1 (c0 : 0 ≤ c) (c1 : c ≤ 3072) (hI : Iv c g g r) {b s x Z : Int} (i0 : 0 ≤ s) (i1 : s < g 8 0 5) (x0 : 0 ≤ x) (x1 : x < 2) : ∀ (m : Nat) (y a : Int) (g1 r1 : GI), (0 ≤ y) → (y + m = 2) → (FJ g r g1 r1) → (∀ g1 r1, FJ g r g1 r1 → Ou 82 53 [vR 7 0, vL b, vN, vL (fd (fun y => en8 g 8 s x y) m y a), vN, vI s, vI x, vI 2] [] g1 r1 (fun x g2 r2 => x = some (vL (Z)) ∧ FJ g r g2 r2)) → Ou 82 26 [vR 7 0, vL b, vN, vL a, vN, vI s, vI x, vI y] [] g1 r1 (fun x g2 r2 => x = some (vL (Z)) ∧ FJ g r g2 r2) := by
  intro m
  induction m with
  | zero =>
    intro y a g1 r1 i2 i3 f kQ
    have hw : y = 2 := by omega
    subst hw
    refine o_iload (n := 28) rfl rfl rfl ?_
    refine o_iconst (n := 29) rfl rfl ?_
    refine o_icmp_gt (n := 32) (t := 53) rfl rfl rfl (fun z29 => ?_) (fun z29 => (by exfalso; omega))
    exact kQ _ _ f
  | succ m ih =>
    intro y a g1 r1 i2 i3 f kQ
    refine o_iload (n := 28) rfl rfl rfl ?_
    refine o_iconst (n := 29) rfl rfl ?_
    refine o_icmp_gt (n := 32) (t := 53) rfl rfl rfl (fun z29 => (by exfalso; omega)) (fun z29 => ?_)
    refine o_lload_n (n := 33) rfl rfl rfl ?_
    refine o_aload_n (n := 34) rfl rfl rfl ?_
    refine o_iload (n := 36) rfl rfl rfl ?_
    refine o_iload (n := 38) rfl rfl rfl ?_
    refine o_iload (n := 40) rfl rfl rfl ?_
    obtain ⟨g2, r2, hc2, f⟩ := u7 (C7_entry s x y) (enS_m s x y) c0 c1 hI f
    refine o_invi (n := 43) rfl rfl rfl rfl rfl rfl rfl rfl rfl rfl (hc2) ?_
    rw [show enS g s x y = en8 g 8 s x y from cif_t (by omega)]
    refine o_invsi (n := 46) rfl rfl rfl rfl rfl rfl (c7_mix _ _) ?_
    refine o_lstore_3 (n := 47) rfl rfl rfl ?_
    refine o_iinc_7 (n := 50) rfl rfl rfl (by omega) ?_
    refine o_goto (t := 26) rfl rfl ?_
    exact ih (y + 1) _ _ _ (by omega) (by omega) f kQ
theorem l7_ms2 (c0 : 0 ≤ c) (c1 : c ≤ 3072) (hI : Iv c g g r) {b s Z : Int} (i0 : 0 ≤ s) (i1 : s < g 8 0 5) : ∀ (m : Nat) (x a : Int) (t : AV) (g1 r1 : GI), (0 ≤ x) → (x + m = 2) → (FJ g r g1 r1) → (∀ t g1 r1, FJ g r g1 r1 → Ou 82 59 [vR 7 0, vL b, vN, vL (fq (fun x a => fd (fun y => en8 g 8 s x y) 2 0 a) m x a), vN, vI s, vI 2, t] [] g1 r1 (fun x g2 r2 => x = some (vL (Z)) ∧ FJ g r g2 r2)) → Ou 82 17 [vR 7 0, vL b, vN, vL a, vN, vI s, vI x, t] [] g1 r1 (fun x g2 r2 => x = some (vL (Z)) ∧ FJ g r g2 r2) := by
  intro m
  induction m with
  | zero =>
    intro x a t g1 r1 i2 i3 f kQ
    have hw : x = 2 := by omega
    subst hw
    refine o_iload (n := 19) rfl rfl rfl ?_
    refine o_iconst (n := 20) rfl rfl ?_
    refine o_icmp_gt (n := 23) (t := 59) rfl rfl rfl (fun z20 => ?_) (fun z20 => (by exfalso; omega))
    exact kQ _ _ _ f
  | succ m ih =>
    intro x a t g1 r1 i2 i3 f kQ
    refine o_iload (n := 19) rfl rfl rfl ?_
    refine o_iconst (n := 20) rfl rfl ?_
    refine o_icmp_gt (n := 23) (t := 59) rfl rfl rfl (fun z20 => (by exfalso; omega)) (fun z20 => ?_)
    refine o_iconst (n := 24) rfl rfl ?_
    refine o_istore_7 (n := 26) rfl rfl rfl ?_
    refine l7_ms1 c0 c1 hI i0 i1 i2 (by omega) 2 0 a _ _ (by omega) (by omega) f (fun g1 r1 f => ?_)
    refine o_iinc_6 (n := 56) rfl rfl rfl (by omega) ?_
    refine o_goto (t := 17) rfl rfl ?_
    exact ih (x + 1) _ _ _ _ (by omega) (by omega) f kQ
theorem l7_ms (c0 : 0 ≤ c) (c1 : c ≤ 3072) (hI : Iv c g g r) {b : Int} : ∀ (m : Nat) (s a : Int) (t u : AV) (g1 r1 : GI), (0 ≤ s) → (s + m = g 8 0 5) → (FJ g r g1 r1) → Ou 82 5 [vR 7 0, vL b, vN, vL a, vN, vI s, t, u] [] g1 r1 (fun x g2 r2 => x = some (vL (fq (sT g) m s a)) ∧ FJ g r g2 r2) := by
  intro m
  induction m with
  | zero =>
    intro s a t u g1 r1 i0 i1 f
    have ru0 : g 7 0 10 = g 8 0 8 := hI.2.2.2.1.1.1
    have ru1 := hI.2.2.2.1.2.1.1
    have st0 := hI.2.2.2.2.2.2.1.1
    have st1 := hI.2.2.2.2.2.2.1.2.1
    have st2 := hI.2.2.2.2.2.2.1.2.2.1
    have sg := hI.2.1
    unfold Isg at sg
    have nw3 := hI.2.2.2.2.2.1.2.2.1
    have e7 := f.1 7 (by decide) (by decide)
    refine o_iload (n := 7) rfl rfl rfl ?_
    refine o_aload_n (n := 8) rfl rfl rfl ?_
    refine o_geti (n := 11) rfl rfl rfl rfl rfl ?_
    refine o_icmp_ge (n := 14) (t := 65) rfl rfl rfl (fun z11 => ?_) (fun z11 => (by exfalso; rw [e7] at z11; omega))
    refine o_lload_n (n := 66) rfl rfl rfl ?_
    refine o_lret rfl ?_
    first | (exfalso; omega; done) | exact ⟨rfl, f⟩
  | succ m ih =>
    intro s a t u g1 r1 i0 i1 f
    have ru0 : g 7 0 10 = g 8 0 8 := hI.2.2.2.1.1.1
    have ru1 := hI.2.2.2.1.2.1.1
    have st0 := hI.2.2.2.2.2.2.1.1
    have st1 := hI.2.2.2.2.2.2.1.2.1
    have st2 := hI.2.2.2.2.2.2.1.2.2.1
    have sg := hI.2.1
    unfold Isg at sg
    have nw3 := hI.2.2.2.2.2.1.2.2.1
    have e7 := f.1 7 (by decide) (by decide)
    refine o_iload (n := 7) rfl rfl rfl ?_
    refine o_aload_n (n := 8) rfl rfl rfl ?_
    refine o_geti (n := 11) rfl rfl rfl rfl rfl ?_
    refine o_icmp_ge (n := 14) (t := 65) rfl rfl rfl (fun z11 => (by exfalso; rw [e7] at z11; omega)) (fun z11 => ?_)
    refine o_iconst (n := 15) rfl rfl ?_
    refine o_istore_6 (n := 17) rfl rfl rfl ?_
    refine l7_ms2 c0 c1 hI i0 (show s < g 8 0 5 by omega) 2 0 a _ _ _ (by omega) (by omega) f (fun t g1 r1 f => ?_)
    refine o_iinc_5 (n := 62) rfl rfl rfl (by omega) ?_
    refine o_goto (t := 5) rfl rfl ?_
    exact ih (s + 1) _ _ _ _ _ (by omega) (by omega) f
theorem c7_mixSigns (c0 : 0 ≤ c) (c1 : c ≤ 3072) (hI : Iv c g g r) {b : Int} {g1 r1 : GI} (f : FJ g r g1 r1) : Ou 82 0 (am_ini 82 [vR 7 0, vL b]) [] g1 r1 (fun x g2 r2 => x = some (vL (fq (sT g) (g 8 0 5).toNat 0 b)) ∧ FJ g r g2 r2) := by
  show Ou 82 0 [vR 7 0, vL b, vN, vN, vN, vN, vN, vN] [] g1 r1 _
  have ru0 : g 7 0 10 = g 8 0 8 := hI.2.2.2.1.1.1
  have ru1 := hI.2.2.2.1.2.1.1
  have st0 := hI.2.2.2.2.2.2.1.1
  have st1 := hI.2.2.2.2.2.2.1.2.1
  have st2 := hI.2.2.2.2.2.2.1.2.2.1
  have sg := hI.2.1
  unfold Isg at sg
  have nw3 := hI.2.2.2.2.2.1.2.2.1
  refine o_lload_n (n := 1) rfl rfl rfl ?_
  refine o_lstore_3 (n := 2) rfl rfl rfl ?_
  refine o_iconst (n := 3) rfl rfl ?_
  refine o_istore_5 (n := 5) rfl rfl rfl ?_
  exact l7_ms c0 c1 hI (g 8 0 5).toNat 0 b _ _ _ _ (by omega) (by omega) f
theorem l7_dl (c0 : 0 ≤ c) (c1 : c ≤ 3072) (hI : Iv c g g r) {t : AV} : ∀ (m : Nat) (k a : Int) (g1 r1 : GI), (-1 ≤ k) → (k + m = 24) → (FJ g r g1 r1) → Ou 80 156 [vR 7 0, vL a, vN, vI k, t] [] g1 r1 (fun x g2 r2 => x = some (vL (fd (ltu g) m k a)) ∧ FJ g r g2 r2) := by
  intro m
  induction m with
  | zero =>
    intro k a g1 r1 i0 i1 f
    refine o_iload_n (n := 157) rfl rfl rfl ?_
    refine o_bipush (n := 159) rfl rfl ?_
    refine o_icmp_ge (n := 162) (t := 178) rfl rfl rfl (fun z159 => ?_) (fun z159 => (by exfalso; omega))
    refine o_lload_n (n := 179) rfl rfl rfl ?_
    refine o_lret rfl ?_
    first | (exfalso; omega; done) | exact ⟨rfl, f⟩
  | succ m ih =>
    intro k a g1 r1 i0 i1 f
    refine o_iload_n (n := 157) rfl rfl rfl ?_
    refine o_bipush (n := 159) rfl rfl ?_
    refine o_icmp_ge (n := 162) (t := 178) rfl rfl rfl (fun z159 => (by exfalso; omega)) (fun z159 => ?_)
    refine o_lload_n (n := 163) rfl rfl rfl ?_
    refine o_aload_n (n := 164) rfl rfl rfl ?_
    refine o_iload_n (n := 165) rfl rfl rfl ?_
    obtain ⟨g2, r2, hc2, f⟩ := u7 (C7_letter k) (ltS_m k) c0 c1 hI f
    refine o_invi (n := 168) rfl rfl rfl rfl rfl rfl rfl rfl rfl rfl (hc2) ?_
    rw [show ltS g k = ltu g k from cif_t (by omega)]
    refine o_invsi (n := 171) rfl rfl rfl rfl rfl rfl (c7_mix _ _) ?_
    refine o_lstore_1 (n := 172) rfl rfl rfl ?_
    refine o_iinc_3 (n := 175) rfl rfl rfl (by omega) ?_
    refine o_goto (t := 156) rfl rfl ?_
    exact ih (k + 1) _ _ _ (by omega) (by omega) f
theorem l7_dk1 (c0 : 0 ≤ c) (c1 : c ≤ 3072) (hI : Iv c g g r) {k Z : Int} (i0 : 0 ≤ k) (i1 : k < g 8 0 19) : ∀ (m : Nat) (w a : Int) (g1 r1 : GI), (0 ≤ w) → (w + m = 4) → (FJ g r g1 r1) → (∀ g1 r1, FJ g r g1 r1 → Ou 80 115 [vR 7 0, vL (fd (fun w => sgu g k w) m w a), vN, vI k, vI 4] [] g1 r1 (fun x g2 r2 => x = some (vL (Z)) ∧ FJ g r g2 r2)) → Ou 80 91 [vR 7 0, vL a, vN, vI k, vI w] [] g1 r1 (fun x g2 r2 => x = some (vL (Z)) ∧ FJ g r g2 r2) := by
  intro m
  induction m with
  | zero =>
    intro w a g1 r1 i2 i3 f kQ
    have hw : w = 4 := by omega
    subst hw
    refine o_iload (n := 93) rfl rfl rfl ?_
    refine o_iconst (n := 94) rfl rfl ?_
    refine o_icmp_gt (n := 97) (t := 115) rfl rfl rfl (fun z94 => ?_) (fun z94 => (by exfalso; omega))
    exact kQ _ _ f
  | succ m ih =>
    intro w a g1 r1 i2 i3 f kQ
    refine o_iload (n := 93) rfl rfl rfl ?_
    refine o_iconst (n := 94) rfl rfl ?_
    refine o_icmp_gt (n := 97) (t := 115) rfl rfl rfl (fun z94 => (by exfalso; omega)) (fun z94 => ?_)
    refine o_lload_n (n := 98) rfl rfl rfl ?_
    refine o_aload_n (n := 99) rfl rfl rfl ?_
    refine o_iload_n (n := 100) rfl rfl rfl ?_
    refine o_iload (n := 102) rfl rfl rfl ?_
    obtain ⟨g2, r2, hc2, f⟩ := u7 (C7_stages k w) (sgS_m k w) c0 c1 hI f
    refine o_invi (n := 105) rfl rfl rfl rfl rfl rfl rfl rfl rfl rfl (hc2) ?_
    rw [show sgS g k w = sgu g k w from cif_t (by omega)]
    refine o_invsi (n := 108) rfl rfl rfl rfl rfl rfl (c7_mix _ _) ?_
    refine o_lstore_1 (n := 109) rfl rfl rfl ?_
    refine o_iinc_4 (n := 112) rfl rfl rfl (by omega) ?_
    refine o_goto (t := 91) rfl rfl ?_
    exact ih (w + 1) _ _ _ (by omega) (by omega) f kQ
theorem l7_dk (c0 : 0 ≤ c) (c1 : c ≤ 3072) (hI : Iv c g g r) {Z : Int} : ∀ (m : Nat) (k a : Int) (t : AV) (g1 r1 : GI), (0 ≤ k) → (k + m = g 8 0 19) → (FJ g r g1 r1) → (∀ q t g1 r1, FJ g r g1 r1 → Ou 80 144 [vR 7 0, vL (fq (kT g) m k a), vN, vI q, t] [] g1 r1 (fun x g2 r2 => x = some (vL (Z)) ∧ FJ g r g2 r2)) → Ou 80 80 [vR 7 0, vL a, vN, vI k, t] [] g1 r1 (fun x g2 r2 => x = some (vL (Z)) ∧ FJ g r g2 r2) := by
  intro m
  induction m with
  | zero =>
    intro k a t g1 r1 i0 i1 f kQ
    have ru0 : g 7 0 10 = g 8 0 8 := hI.2.2.2.1.1.1
    have ru1 := hI.2.2.2.1.2.1.1
    have st0 := hI.2.2.2.2.2.2.1.1
    have st1 := hI.2.2.2.2.2.2.1.2.1
    have st2 := hI.2.2.2.2.2.2.1.2.2.1
    have sg := hI.2.1
    unfold Isg at sg
    have nw3 := hI.2.2.2.2.2.1.2.2.1
    have e7 := f.1 7 (by decide) (by decide)
    refine o_iload_n (n := 81) rfl rfl rfl ?_
    refine o_aload_n (n := 82) rfl rfl rfl ?_
    refine o_geti (n := 85) rfl rfl rfl rfl rfl ?_
    refine o_icmp_ge (n := 88) (t := 144) rfl rfl rfl (fun z85 => ?_) (fun z85 => (by exfalso; rw [e7] at z85; omega))
    exact kQ _ _ _ _ f
  | succ m ih =>
    intro k a t g1 r1 i0 i1 f kQ
    have ru0 : g 7 0 10 = g 8 0 8 := hI.2.2.2.1.1.1
    have ru1 := hI.2.2.2.1.2.1.1
    have st0 := hI.2.2.2.2.2.2.1.1
    have st1 := hI.2.2.2.2.2.2.1.2.1
    have st2 := hI.2.2.2.2.2.2.1.2.2.1
    have sg := hI.2.1
    unfold Isg at sg
    have nw3 := hI.2.2.2.2.2.1.2.2.1
    have e7 := f.1 7 (by decide) (by decide)
    refine o_iload_n (n := 81) rfl rfl rfl ?_
    refine o_aload_n (n := 82) rfl rfl rfl ?_
    refine o_geti (n := 85) rfl rfl rfl rfl rfl ?_
    refine o_icmp_ge (n := 88) (t := 144) rfl rfl rfl (fun z85 => (by exfalso; rw [e7] at z85; omega)) (fun z85 => ?_)
    refine o_iconst (n := 89) rfl rfl ?_
    refine o_istore_4 (n := 91) rfl rfl rfl ?_
    refine l7_dk1 c0 c1 hI i0 (show k < g 8 0 19 by omega) 4 0 a _ _ (by omega) (by omega) f (fun g1 r1 f => ?_)
    refine o_lload_n (n := 116) rfl rfl rfl ?_
    refine o_aload_n (n := 117) rfl rfl rfl ?_
    refine o_iload_n (n := 118) rfl rfl rfl ?_
    obtain ⟨g2, r2, hc2, f⟩ := u7 (C7_measure k) (msS_m k) c0 c1 hI f
    refine o_invi (n := 121) rfl rfl rfl rfl rfl rfl rfl rfl rfl rfl (hc2) ?_
    rw [show msS g k = msu g k from (cif_f (by omega)).trans (cif_t (by omega))]
    refine o_invsi (n := 124) rfl rfl rfl rfl rfl rfl (c7_mix _ _) ?_
    refine o_lstore_1 (n := 125) rfl rfl rfl ?_
    refine o_lload_n (n := 126) rfl rfl rfl ?_
    refine o_aload_n (n := 127) rfl rfl rfl ?_
    refine o_iload_n (n := 128) rfl rfl rfl ?_
    refine o_iconst (n := 129) rfl rfl ?_
    refine o_iconst (n := 130) rfl rfl ?_
    refine o_iconst (n := 131) rfl rfl ?_
    obtain ⟨g2, r2, hc2, f⟩ := u7 (C7_kept k 0 0 0) (kpS_m k 0 0 0) c0 c1 hI f
    refine o_invi (n := 134) rfl rfl rfl rfl rfl rfl rfl rfl rfl rfl (hc2) ?_
    rw [show kpS g k 0 0 0 = en8 g k 0 0 0 from cif_t (by omega)]
    refine o_invsi (n := 137) rfl rfl rfl rfl rfl rfl (c7_mix _ _) ?_
    refine o_lstore_1 (n := 138) rfl rfl rfl ?_
    refine o_iinc_3 (n := 141) rfl rfl rfl (by omega) ?_
    refine o_goto (t := 80) rfl rfl ?_
    exact ih (k + 1) _ _ _ _ (by omega) (by omega) f kQ
theorem l7_dc (c0 : 0 ≤ c) (c1 : c ≤ 3072) (hI : Iv c g g r) {Z : Int} {t : AV} : ∀ (m : Nat) (w a : Int) (g1 r1 : GI), (0 ≤ w) → (w + m = 8) → (FJ g r g1 r1) → (∀ g1 r1, FJ g r g1 r1 → Ou 80 28 [vR 7 0, vL (fd (cnS g) m w a), vN, vI 8, t] [] g1 r1 (fun x g2 r2 => x = some (vL (Z)) ∧ FJ g r g2 r2)) → Ou 80 6 [vR 7 0, vL a, vN, vI w, t] [] g1 r1 (fun x g2 r2 => x = some (vL (Z)) ∧ FJ g r g2 r2) := by
  intro m
  induction m with
  | zero =>
    intro w a g1 r1 i2 i3 f kQ
    have hw : w = 8 := by omega
    subst hw
    refine o_iload_n (n := 7) rfl rfl rfl ?_
    refine o_bipush (n := 9) rfl rfl ?_
    refine o_icmp_gt (n := 12) (t := 28) rfl rfl rfl (fun z9 => ?_) (fun z9 => (by exfalso; omega))
    exact kQ _ _ f
  | succ m ih =>
    intro w a g1 r1 i2 i3 f kQ
    refine o_iload_n (n := 7) rfl rfl rfl ?_
    refine o_bipush (n := 9) rfl rfl ?_
    refine o_icmp_gt (n := 12) (t := 28) rfl rfl rfl (fun z9 => (by exfalso; omega)) (fun z9 => ?_)
    refine o_lload_n (n := 13) rfl rfl rfl ?_
    refine o_aload_n (n := 14) rfl rfl rfl ?_
    refine o_iload_n (n := 15) rfl rfl rfl ?_
    obtain ⟨g2, r2, hc2, f⟩ := u7 (C7_count w) (cnS_m w) c0 c1 hI f
    refine o_invi (n := 18) rfl rfl rfl rfl rfl rfl rfl rfl rfl rfl (hc2) ?_
    refine o_invsi (n := 21) rfl rfl rfl rfl rfl rfl (c7_mix _ _) ?_
    refine o_lstore_1 (n := 22) rfl rfl rfl ?_
    refine o_iinc_3 (n := 25) rfl rfl rfl (by omega) ?_
    refine o_goto (t := 6) rfl rfl ?_
    exact ih (w + 1) _ _ _ (by omega) (by omega) f kQ
theorem C7_digest : C7 80 [] (fun g => vL (dgS g)) := by
  intro c g r c0 c1 hI
  show Ou 80 0 [vR 7 0, vN, vN, vN, vN] [] g r (fun x g2 r2 => x = some (vL (dgS g)) ∧ FJ g r g2 r2)
  have ru0 : g 7 0 10 = g 8 0 8 := hI.2.2.2.1.1.1
  have ru1 := hI.2.2.2.1.2.1.1
  have st0 := hI.2.2.2.2.2.2.1.1
  have st1 := hI.2.2.2.2.2.2.1.2.1
  have st2 := hI.2.2.2.2.2.2.1.2.2.1
  have sg := hI.2.1
  unfold Isg at sg
  have nw3 := hI.2.2.2.2.2.1.2.2.1
  refine o_ldc2_w (n := 3) rfl rfl ?_
  refine o_lstore_1 (n := 4) rfl rfl rfl ?_
  refine o_iconst (n := 5) rfl rfl ?_
  refine o_istore_3 (n := 6) rfl rfl rfl ?_
  refine l7_dc c0 c1 hI 8 0 17 _ _ (by omega) (by omega) (FJ_refl hI.1.2.2.1) (fun g1 r1 f => ?_)
  refine o_lload_n (n := 29) rfl rfl rfl ?_
  refine o_aload_n (n := 30) rfl rfl rfl ?_
  refine o_iconst (n := 31) rfl rfl ?_
  obtain ⟨g2, r2, hc2, f⟩ := u7 (C7_fault 0) (ftS_m 0) c0 c1 hI f
  refine o_invi (n := 34) rfl rfl rfl rfl rfl rfl rfl rfl rfl rfl (hc2) ?_
  rw [show ftS g 0 = frS g from cif_t rfl]
  refine o_invsi (n := 37) rfl rfl rfl rfl rfl rfl (c7_mix _ _) ?_
  refine o_lstore_1 (n := 38) rfl rfl rfl ?_
  refine o_lload_n (n := 39) rfl rfl rfl ?_
  refine o_aload_n (n := 40) rfl rfl rfl ?_
  refine o_iconst (n := 41) rfl rfl ?_
  obtain ⟨g2, r2, hc2, f⟩ := u7 (C7_fault 1) (ftS_m 1) c0 c1 hI f
  refine o_invi (n := 44) rfl rfl rfl rfl rfl rfl rfl rfl rfl rfl (hc2) ?_
  rw [show ftS g 1 = fwS g from (cif_f (by decide)).trans (cif_t rfl)]
  refine o_invsi (n := 47) rfl rfl rfl rfl rfl rfl (c7_mix _ _) ?_
  refine o_lstore_1 (n := 48) rfl rfl rfl ?_
  refine o_lload_n (n := 49) rfl rfl rfl ?_
  refine o_aload_n (n := 50) rfl rfl rfl ?_
  obtain ⟨g2, r2, hc2, f⟩ := u7 (C7_sound) (soS_m) c0 c1 hI f
  refine o_invi (n := 53) rfl rfl rfl rfl rfl rfl rfl rfl rfl rfl (hc2) ?_
  refine o_invsi (n := 56) rfl rfl rfl rfl rfl rfl (c7_mix _ _) ?_
  refine o_lstore_1 (n := 57) rfl rfl rfl ?_
  refine o_lload_n (n := 58) rfl rfl rfl ?_
  refine o_aload_n (n := 59) rfl rfl rfl ?_
  obtain ⟨g2, r2, hc2, f⟩ := u7 (C7_ends) (edS_m) c0 c1 hI f
  refine o_invi (n := 62) rfl rfl rfl rfl rfl rfl rfl rfl rfl rfl (hc2) ?_
  refine o_invsi (n := 65) rfl rfl rfl rfl rfl rfl (c7_mix _ _) ?_
  refine o_lstore_1 (n := 66) rfl rfl rfl ?_
  refine o_aload_n (n := 67) rfl rfl rfl ?_
  refine o_lload_n (n := 68) rfl rfl rfl ?_
  obtain ⟨v2, g2, r2, hc2, e1, f⟩ := rt_ex (c7_mixRules c0 c1 hI (b := dg0 g) f)
  subst e1
  refine o_invi (n := 71) rfl rfl rfl rfl rfl rfl rfl rfl rfl rfl (hc2) ?_
  refine o_lstore_1 (n := 72) rfl rfl rfl ?_
  refine o_aload_n (n := 73) rfl rfl rfl ?_
  refine o_lload_n (n := 74) rfl rfl rfl ?_
  obtain ⟨v2, g2, r2, hc2, e1, f⟩ := rt_ex (c7_mixSigns c0 c1 hI (b := dg1 g) f)
  subst e1
  refine o_invi (n := 77) rfl rfl rfl rfl rfl rfl rfl rfl rfl rfl (hc2) ?_
  refine o_lstore_1 (n := 78) rfl rfl rfl ?_
  refine o_iconst (n := 79) rfl rfl ?_
  refine o_istore_3 (n := 80) rfl rfl rfl ?_
  refine l7_dk c0 c1 hI (g 8 0 19).toNat 0 _ _ _ _ (by omega) (by omega) f (fun q t g1 r1 f => ?_)
  refine o_lload_n (n := 145) rfl rfl rfl ?_
  refine o_aload_n (n := 146) rfl rfl rfl ?_
  refine o_iconst (n := 147) rfl rfl ?_
  obtain ⟨g2, r2, hc2, f⟩ := u7 (C7_measure (-1)) (msS_m (-1)) c0 c1 hI f
  refine o_invi (n := 150) rfl rfl rfl rfl rfl rfl rfl rfl rfl rfl (hc2) ?_
  rw [show msS g (-1) = msu g 8 from cif_t rfl]
  refine o_invsi (n := 153) rfl rfl rfl rfl rfl rfl (c7_mix _ _) ?_
  refine o_lstore_1 (n := 154) rfl rfl rfl ?_
  refine o_iconst (n := 155) rfl rfl ?_
  refine o_istore_3 (n := 156) rfl rfl rfl ?_
  exact l7_dl c0 c1 hI 25 (-1) _ _ _ (by omega) (by omega) f
end DIGEST7
