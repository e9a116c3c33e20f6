/-! info: like answers of both. Written by wip/gen/gen39.py -/
noncomputable def gr8 (g : GI) (i : Int) : Int := gr (g 27 0 8) (g 28 0 8) (E8 g 8) (L8 g) (W8 g) i
theorem at_eq {c : Int} {g r : GI} (hru : Iru c g g r) (hwd : Iwd c g g) {i j : Int} (i0 : 0 ≤ i) (i1 : i < g 8 0 8) (j0 : 0 ≤ j) : at1 g (1 + 2 * r 14 0 i) j ↔ at8 g i j := by
  have hs := ru_s hru i0 i1 (Or.inl rfl)
  rw [Int.add_zero, Int.add_zero] at hs
  have w0 : g 1 0 1 = g 8 0 14 := hwd.1.1
  have w1 := hwd.1.2
  have w2 := hwd.2.1.1
  unfold at1 at8
  rw [hs.1, w0]
  constructor
  · rintro ⟨a, b, d⟩
    refine ⟨by omega, fun k k0 k1 => ?_⟩
    have e := d k k0 k1
    rw [w1 (j + k) (by omega) (by omega), hs.2.2 k k0 k1, show 6 * (2 * i) + k = 12 * i + k by omega] at e
    exact e
  · rintro ⟨b, d⟩
    refine ⟨j0, by omega, fun k k0 k1 => ?_⟩
    rw [w1 (j + k) (by omega) (by omega), hs.2.2 k k0 k1, show 6 * (2 * i) + k = 12 * i + k by omega]
    exact d k k0 k1
noncomputable def inu (g : GI) (i w : Int) : Int := cif (w = 0) (bi (bt (g 8 0 12) i)) (cif (w = 1) (fi (g 8 0 19).toNat 0 (fun j => bt (rm8 g j) i) (-1)) (cif (w = 2) (g 24 0 i) (cif (w = 3) (bi (gr8 g i ≠ 0)) (cif (w = 4) (bi (gr8 g i = 2)) (ctn (at8 g i) (g 8 0 14).toNat 0 0)))))
noncomputable def inS (g : GI) (i w : Int) : Int := cif ((0 ≤ i ∧ i < g 8 0 8) ∧ (0 ≤ w ∧ w ≤ 5)) (inu g i w) (-2)
theorem gr8_m (i : Int) : Mf (fun g => gr8 g i) := fun g h hm => by
  have e : ∀ k, (k = 22 ∨ k = 23 ∨ k = 26 ∨ k = 27 ∨ k = 28) → h k = g k := fun k hk => hm k (Or.inr (by omega)) (by omega) (by omega) (by omega)
  show gr8 h i = gr8 g i
  unfold gr8
  rw [E8_m (e 26 (by omega)), L8_c (by rw [e 23 (by omega)]), W8_c (by rw [e 22 (by omega)]), e 27 (by omega), e 28 (by omega)]
theorem inu_m (i w : Int) : Mf (fun g => inu g i w) := fun g h hm => by
  have e : ∀ k, (k = 22 ∨ k = 23 ∨ k = 24 ∨ k = 25 ∨ k = 29) → h k = g k := fun k hk => hm k (Or.inr (by omega)) (by omega) (by omega) (by omega)
  have h8 := hm 8 (Or.inl rfl) (by decide) (by decide) (by decide)
  show inu h i w = inu g i w
  unfold inu rm8 at8
  rw [h8, e 24 (by omega), e 29 (by omega), e 22 (by omega), e 23 (by omega), e 25 (by omega), show gr8 h i = gr8 g i from gr8_m i g h hm]
theorem inS_m (i w : Int) : Mf (fun g => vI (inS g i w)) := fun g h hm => by
  show vI (inS h i w) = vI (inS g i w)
  unfold inS
  rw [show inu h i w = inu g i w from inu_m i w g h hm, hm 8 (Or.inl rfl) (by decide) (by decide) (by decide)]
theorem c7_b1 {g r : GI} : Rt 84 [vI 1] g r (some (vI 1)) g r := by
  have h := c7_bit (g := g) (r := r) True
  rw [bi_t trivial] at h
  exact h
theorem c7_b0 {g r : GI} : Rt 84 [vI 0] g r (some (vI 0)) g r := by
  have h := c7_bit (g := g) (r := r) False
  rw [bi_f id] at h
  exact h
theorem c7_judge8 {c : Int} {g r : GI} (hI : Iv c g g r) {i : Int} (i0 : 0 ≤ i) (i1 : i < g 8 0 8) : ∃ g1 r1, Rt 101 [vR 7 0, vR 2 (r 14 0 i), vR 0 0] g r (some (vI (gr8 g i))) g1 r1 ∧ FJ g r g1 r1 := by
  obtain ⟨⟨hS, hR, h6, hP⟩, hsg, htx, hru, hwd, hnw, hst, hsh, hla⟩ := hI
  have hu := hru.2.1.2 i i0 i1
  have hv := hru.1.2 i i0 i1
  have hl := hru.2.1.1
  have hr := hR.1 i i0 (by omega)
  obtain ⟨v1, g1, r1, hc, hv1, f1⟩ := rt_ex (c7_judge hS hR h6 (e := 0) (by omega) (by omega) hr.1 hr.2 hnw.2 hnw.1 hu.1.1 hu.2.1 hu.1.2 hu.2.2 hv.1 hv.2)
  subst hv1
  exact ⟨g1, r1, hc, f1⟩
theorem c8_grade8 {c : Int} {g r : GI} (hI : Iv c g g r) {i : Int} (i0 : 0 ≤ i) (i1 : i < g 8 0 8) : ∃ g1, Rt 139 [vR 8 0, vI 8, vI i] g r (some (vI (gr8 g i))) g1 r ∧ F8 g g1 := by
  obtain ⟨⟨hS, hR, h6, hP⟩, hsg, htx, hru, hwd, hnw, hst, hsh, hla⟩ := hI
  have hl := hru.2.1.1
  obtain ⟨v1, g1, r1, hc, hv1, hr, f1⟩ := rt_ex (c8_grade hS (d := 8) (by omega) (by omega) hnw.2 (Vr8_E 8) hru.2.1 (Vu8_E hl.1) i0 i1)
  subst hv1
  subst hr
  exact ⟨g1, hc, f1⟩
