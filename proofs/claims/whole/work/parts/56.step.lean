/-! step. Written by wip/gen/gen56.py -/
theorem gcpy_d {g : GI} {k : Nat} {i v d n : Int} (n0 : 0 ≤ n) (d0 : 0 < d) : gset (gcpy g k i (v + 1) k i (v + 1 + d) n) k i (v + d) (gcpy g k i (v + 1) k i (v + 1 + d) n k i v) = gcpy g k i v k i (v + d) (n + 1) := by
  funext k' i' s
  unfold gset gcpy
  by_cases e : k' = k ∧ i' = i ∧ s = v + d
  · rw [if_pos e, if_neg (fun z => by omega), if_pos ⟨e.1, e.2.1, by omega, by omega⟩, show v + (s - (v + d)) = v by omega]
  · rw [if_neg e]
    by_cases w : k' = k ∧ i' = i ∧ v + 1 + d ≤ s ∧ s < v + 1 + d + n
    · rw [if_pos w, if_pos ⟨w.1, w.2.1, by omega, by omega⟩, show v + 1 + (s - (v + 1 + d)) = v + (s - (v + d)) by omega]
    · rw [if_neg w, if_neg (fun z => w ⟨z.1, z.2.1, by
        by_cases a : s = v + d
        · exact absurd ⟨z.1, z.2.1, a⟩ e
        · omega, by omega⟩)]
noncomputable def plc (h : GI) (i : Int) : Int := fi (h 8 0 14).toNat 0 (at8 h i) (-1)
noncomputable def sti (h : GI) : Int := fi (h 8 0 8).toNat 0 (fun i => plc h i ≠ -1) (-1)
noncomputable def stX (h : GI) (t : Int) : Int := cif (t = -1) (-3) (cif (h 8 0 14 + (lrr h t - llr h t) ≤ 24) t (-4))
noncomputable def SfX (h : GI) (t : Int) : GI := cif (t = -1) h (cif (h 8 0 14 + (lrr h t - llr h t) ≤ 24) (PuF h t (plc h t)) h)
noncomputable def stV (h : GI) : Int := stX h (sti h)
noncomputable def StF (h : GI) : GI := SfX h (sti h)
def Us (h : GI) (B : Int) : Prop := (∀ i, 0 ≤ i → i < h 8 0 8 → h 24 0 i ≤ B) ∧ h 8 0 15 ≤ B
section STEP
variable {c : Int} {g h r g0 r0 : GI}
theorem plc_p {i : Int} (e : plc h i ≠ -1) (l : 0 ≤ h 8 0 14) : 0 ≤ plc h i ∧ plc h i + llr h i ≤ h 8 0 14 := by
  rcases fi_range (d := -1) (p := at8 h i) (n := (h 8 0 14).toNat) (k := 0) with w | ⟨w1, _, w2, _⟩
  · exact absurd w e
  · exact ⟨w1, w2.1⟩
theorem at_eqG (hru : Iru c g h r) (hwd : Iwd c g h) {i j : Int} (i0 : 0 ≤ i) (i1 : i < h 8 0 8) (j0 : 0 ≤ j) : at1 g (1 + 2 * r 14 0 i) j ↔ at8 h i j := by
  have hs := ru_s hru i0 i1 (Or.inl rfl)
  rw [Int.add_zero, Int.add_zero] at hs
  have w0 : g 1 0 1 = h 8 0 14 := hwd.1.1
  have w1 := hwd.1.2
  have w2 := hwd.2.1.1
  unfold at1 at8
  rw [hs.1, w0]
  constructor
  · rintro ⟨a, b, d⟩
    refine ⟨by omega, fun k k0 k1 => ?_⟩
    have e := d k k0 k1
    rw [w1 (j + k) (by omega) (by omega), hs.2.2 k k0 k1, show 6 * (2 * i) + k = 12 * i + k by omega] at e
    exact e
  · rintro ⟨b, d⟩
    refine ⟨j0, by omega, fun k k0 k1 => ?_⟩
    rw [w1 (j + k) (by omega) (by omega), hs.2.2 k k0 k1, show 6 * (2 * i) + k = 12 * i + k by omega]
    exact d k k0 k1
theorem plc_eq (hru : Iru c g h r) (hwd : Iwd c g h) {i : Int} (i0 : 0 ≤ i) (i1 : i < h 8 0 8) : fi (g 1 0 1).toNat 0 (at1 g (1 + 2 * r 14 0 i)) (-1) = plc h i := by
  have w0 : g 1 0 1 = h 8 0 14 := hwd.1.1
  unfold plc
  rw [w0]
  exact fi_congr (fun j j0 j1 => at_eqG hru hwd i0 i1 j0)
theorem Us_put {i j B : Int} (u : Us h B) (i0 : 0 ≤ i) (i1 : i < h 8 0 8) : Us (PuF h i j) (B + 1) := by
  refine ⟨fun k k0 k1 => ?_, ?_⟩
  · rw [PuF_8 (by decide) (by decide)] at k1
    rw [PuF_24]
    have := u.1 k k0 k1
    have := u.1 i i0 i1
    by_cases e : k = i
    · rw [cif_t e]; omega
    · rw [cif_f e]; omega
  · rw [PuF_15]
    have := u.2
    omega
theorem Us_up {B B' : Int} (u : Us h B) (e : B ≤ B') : Us h B' := ⟨fun i a b => by have := u.1 i a b; omega, by have := u.2; omega⟩
theorem l7_step {B : Int} (hI : Iv c g h r) (c1 : c ≤ 4000) (u : Us h B) (hB : B + 1 ≤ 40 * c) : ∀ (m : Nat) (k : Int) (t : AV), (0 ≤ k) → (k + m = h 8 0 8) → Ou 69 2 [vR 7 0, vI k, t] [] g r (fun x g1 r1 => x = some (vI (stX h (fi m k (fun i => plc h i ≠ -1) (-1)))) ∧ Fm g g1 ∧ Iv c g1 (SfX h (fi m k (fun i => plc h i ≠ -1) (-1))) r1 ∧ Us (SfX h (fi m k (fun i => plc h i ≠ -1) (-1))) (B + 1)) := by
  intro m
  induction m with
  | zero =>
    intro k t i0 i1
    obtain ⟨⟨hS, hR, h6, hP⟩, hsg, htx, hru, hwd, hnw, hst, hsh, hla⟩ := id hI
    have ru0 : g 7 0 10 = h 8 0 8 := hru.1.1
    have ru1 := hru.2.1.1
    have w0 : g 1 0 1 = h 8 0 14 := hwd.1.1
    have w1 := hwd.2.1.1
    have w2 : g 7 0 12 = h 8 0 15 := hwd.2.2.1
    have w3 := hwd.2.2.2
    refine o_iload_n (n := 3) rfl rfl rfl ?_
    refine o_aload_n (n := 4) rfl rfl rfl ?_
    refine o_geti (n := 7) rfl rfl rfl rfl rfl ?_
    refine o_icmp_ge (n := 10) (t := 45) rfl rfl rfl (fun q7 => ?_) (fun q7 => (by exfalso; omega))
    refine o_bipush (n := 47) rfl rfl ?_
    refine o_iret rfl rfl ?_
    refine ⟨?_, Fm_refl g, ?_, ?_⟩
    · show _ = some (vI (stX h (-1)))
      unfold stX; rw [cif_t rfl]
    · show Iv c g (SfX h (-1)) r
      unfold SfX; rw [cif_t rfl]; exact hI
    · show Us (SfX h (-1)) (B + 1)
      unfold SfX; rw [cif_t rfl]; exact Us_up u (by omega)
  | succ m ih =>
    intro k t i0 i1
    obtain ⟨⟨hS, hR, h6, hP⟩, hsg, htx, hru, hwd, hnw, hst, hsh, hla⟩ := id hI
    have ru0 : g 7 0 10 = h 8 0 8 := hru.1.1
    have ru1 := hru.2.1.1
    have w0 : g 1 0 1 = h 8 0 14 := hwd.1.1
    have w1 := hwd.2.1.1
    have w2 : g 7 0 12 = h 8 0 15 := hwd.2.2.1
    have w3 := hwd.2.2.2
    refine o_iload_n (n := 3) rfl rfl rfl ?_
    refine o_aload_n (n := 4) rfl rfl rfl ?_
    refine o_geti (n := 7) rfl rfl rfl rfl rfl ?_
    refine o_icmp_ge (n := 10) (t := 45) rfl rfl rfl (fun q7 => (by exfalso; omega)) (fun q7 => ?_)
    refine o_aload_n (n := 11) rfl rfl rfl ?_
    refine of_7_1 (n := 14) hS rfl rfl ?_
    refine o_aload_n (n := 15) rfl rfl rfl ?_
    refine of_7_2 (n := 18) hS rfl rfl ?_
    refine o_iload_n (n := 19) rfl rfl rfl ?_
    refine o_ra14 (n := 20) hR rfl rfl (by omega) (by omega) (fun hA19 hB19 => ?_)
    refine of_2_0 (n := 23) hS rfl rfl (by omega) (by omega) ?_
    have hsl := ru_s hru i0 (show k < h 8 0 8 by omega) (Or.inl rfl)
    have hsr := ru_s hru i0 (show k < h 8 0 8 by omega) (Or.inr rfl)
    rw [Int.add_zero, Int.add_zero] at hsl
    rw [show 1 + 2 * r 14 0 k + 1 = 2 + 2 * r 14 0 k by omega] at hsr
    have hus := hru.2.2 k i0 (by omega)
    have hub := u.1 k i0 (by omega)
    have husb := u.2
    have alq : am_al 10 (1 + 2 * r 14 0 k) = 6 := al10 (by omega)
    have hfp := c1_firstPlaceOf (g := g) hS (1 + 2 * r 14 0 k) (by omega) (by omega) (by omega) (by omega) (by omega) (by omega) (by omega)
    rw [plc_eq hru hwd i0 (by omega)] at hfp
    have el : g 1 (1 + 2 * r 14 0 k) 1 = llr h k := hsl.1
    have er : g 1 (2 + 2 * r 14 0 k) 1 = lrr h k := hsr.1
    have bl : 0 ≤ llr h k ∧ llr h k ≤ 6 := hsl.2.1
    have br : 0 ≤ lrr h k ∧ lrr h k ≤ 6 := hsr.2.1
    refine o_invi (n := 26) rfl rfl rfl rfl rfl rfl rfl rfl rfl (ok_1 (by omega) (by omega)) (hfp) ?_
    refine o_istore_2 (n := 27) rfl rfl rfl ?_
    refine o_iload_n (n := 28) rfl rfl rfl ?_
    refine o_iconst (n := 29) rfl rfl ?_
    refine o_icmp_eq (n := 32) (t := 39) rfl rfl rfl (fun q29 => ?_) (fun q29 => ?_)
    · refine o_iinc_1 (n := 42) rfl rfl rfl (by omega) ?_
      refine o_goto (t := 2) rfl rfl ?_
      have hz : plc h k = -1 := by omega
      rw [fi_f (p := fun i => plc h i ≠ -1) (fun z => z hz)]
      exact ih (k + 1) _ (by omega) (by omega)
    · have hz : plc h k ≠ -1 := by omega
      rw [fi_t (p := fun i => plc h i ≠ -1) hz]
      have hpl := plc_p (h := h) (i := k) hz (by omega)
      have hk1 : k ≠ -1 := by omega
      by_cases hov : h 8 0 14 + (lrr h k - llr h k) ≤ 24
      · unfold stX SfX
        rw [cif_f hk1, cif_f hk1, cif_t hov, cif_t hov]
        refine o_aload_n (n := 33) rfl rfl rfl ?_
        refine o_iload_n (n := 34) rfl rfl rfl ?_
        refine o_iload_n (n := 35) rfl rfl rfl ?_
        refine o_invi (n := 38) rfl rfl rfl rfl rfl rfl rfl rfl rfl rfl (c7_stepBy0 hS hR (by omega) (by omega) (by omega) (by omega) (by omega) (by omega) (by omega) (by omega) (by omega) (by omega) (by omega) (by omega) (by omega) (by omega)) ?_
        refine o_iret rfl rfl ?_
        exact ⟨rfl, Fm_P, Iv_put hI i0 (by omega) hpl.1 hpl.2 hov (by omega) (by omega), Us_put u i0 (by omega)⟩
      · unfold stX SfX
        rw [cif_f hk1, cif_f hk1, cif_f hov, cif_f hov]
        refine o_aload_n (n := 33) rfl rfl rfl ?_
        refine o_iload_n (n := 34) rfl rfl rfl ?_
        refine o_iload_n (n := 35) rfl rfl rfl ?_
        refine o_invi (n := 38) rfl rfl rfl rfl rfl rfl rfl rfl rfl rfl (c7_stepBy4 hS hR (by omega) (by omega) (by omega) (by omega) (by omega) (by omega) (by omega) (by omega) (by omega)) ?_
        refine o_iret rfl rfl ?_
        exact ⟨rfl, Fm_refl g, hI, Us_up u (by omega)⟩
theorem c7_stepX {B : Int} (hI : Iv c g h r) (c1 : c ≤ 4000) (u : Us h B) (hB : B + 1 ≤ 40 * c) : Ou 69 0 (am_ini 69 [vR 7 0]) [] g r (fun x g1 r1 => x = some (vI (stV h)) ∧ Fm g g1 ∧ Iv c g1 (StF h) r1 ∧ Us (StF h) (B + 1)) := by
  show Ou 69 0 [vR 7 0, vN, vN] [] g r _
  refine o_iconst (n := 1) rfl rfl ?_
  refine o_istore_1 (n := 2) rfl rfl rfl ?_
  have ru1 := hI.2.2.2.1.2.1.1
  exact l7_step hI c1 u hB (h 8 0 8).toNat 0 _ (by omega) (by omega)
theorem l8_ps {i j : Int} (hS : am_St r) (i0 : 0 ≤ i) (i1 : i < 8) (j0 : 0 ≤ j) (l0 : 0 ≤ llr g i) (l6 : llr g i ≤ 6) (r0 : 0 ≤ lrr g i) (r6 : lrr g i ≤ 6) (j1 : j + llr g i ≤ g 8 0 14) (w : g 8 0 14 ≤ 24) (nl : g 8 0 14 + (lrr g i - llr g i) ≤ 24) (u0 : 0 ≤ g 24 0 i) (u1 : g 24 0 i ≤ 1000000) (s0 : 0 ≤ g 8 0 15) (s1 : g 8 0 15 ≤ 1000000) : ∀ (m : Nat) (k : Int), (0 ≤ k) → (k + m = lrr g i) → Ou 177 114 [vR 8 0, vI i, vI j, vI (llr g i), vI (lrr g i), vI (lrr g i - llr g i), vI k] [] (gcpy (gcpy g 25 0 (j + llr g i) 25 0 (j + lrr g i) (g 8 0 14 - (j + llr g i))) 22 0 (12 * i + 6) 25 0 j k) r (Rq none (PuF g i j) r) := by
  intro m
  induction m with
  | zero =>
    intro k x0 x1
    have hk : k = lrr g i := by omega
    subst hk
    refine o_iload (n := 116) rfl rfl rfl ?_
    refine o_iload (n := 118) rfl rfl rfl ?_
    refine o_icmp_ge (n := 121) (t := 151) rfl rfl rfl (fun q118 => ?_) (fun q118 => (by exfalso; omega))
    refine o_aload_n (n := 152) rfl rfl rfl ?_
    refine o_dup (n := 153) rfl rfl rfl ?_
    refine o_geti (n := 156) rfl rfl rfl rfl rfl ?_
    rw [gcpy_kf (by decide), gcpy_kf (by decide)]
    refine o_iload (n := 158) rfl rfl rfl ?_
    refine o_iadd (n := 159) rfl rfl (by omega) ?_
    refine o_puti (n := 162) rfl rfl rfl rfl rfl ?_
    refine o_aload_n (n := 163) rfl rfl rfl ?_
    refine of_8_11 (n := 166) hS rfl rfl ?_
    refine o_iload_n (n := 167) rfl rfl rfl ?_
    refine o_dup2 (n := 168) rfl rfl rfl rfl ?_
    refine o_iald (n := 169) (L := 8) rfl rfl rfl rfl rfl (by omega) (by omega) ?_
    rw [gset_k rfl, gcpy_kf (by decide), gcpy_kf (by decide)]
    refine o_iconst (n := 170) rfl rfl ?_
    refine o_iadd (n := 171) rfl rfl (by omega) ?_
    refine o_iast (n := 172) (L := 8) rfl rfl rfl rfl rfl (by omega) (by omega) ?_
    refine o_aload_n (n := 173) rfl rfl rfl ?_
    refine o_dup (n := 174) rfl rfl rfl ?_
    refine o_geti (n := 177) rfl rfl rfl rfl rfl ?_
    rw [gset_k rfl, gset_s (by decide), gcpy_kf (by decide), gcpy_kf (by decide)]
    refine o_iconst (n := 178) rfl rfl ?_
    refine o_iadd (n := 179) rfl rfl (by omega) ?_
    refine o_puti (n := 182) rfl rfl rfl rfl rfl ?_
    refine o_vret rfl ?_
    first | (exfalso; omega; done) | exact ⟨rfl, rfl, rfl⟩
  | succ m ih =>
    intro k x0 x1
    refine o_iload (n := 116) rfl rfl rfl ?_
    refine o_iload (n := 118) rfl rfl rfl ?_
    refine o_icmp_ge (n := 121) (t := 151) rfl rfl rfl (fun q118 => (by exfalso; omega)) (fun q118 => ?_)
    refine o_aload_n (n := 122) rfl rfl rfl ?_
    refine of_8_13 (n := 125) hS rfl rfl ?_
    refine o_iload_n (n := 126) rfl rfl rfl ?_
    refine o_iload (n := 128) rfl rfl rfl ?_
    refine o_iadd (n := 129) rfl rfl (by omega) ?_
    refine o_aload_n (n := 130) rfl rfl rfl ?_
    refine of_8_9 (n := 133) hS rfl rfl ?_
    refine o_bipush (n := 135) rfl rfl ?_
    refine o_iload_n (n := 136) rfl rfl rfl ?_
    refine o_imul (n := 137) rfl rfl (by omega) ?_
    refine o_bipush (n := 139) rfl rfl ?_
    refine o_iadd (n := 140) rfl rfl (by omega) ?_
    refine o_iload (n := 142) rfl rfl rfl ?_
    refine o_iadd (n := 143) rfl rfl (by omega) ?_
    refine o_iald (n := 144) (L := 96) rfl rfl rfl rfl rfl (by omega) (by omega) ?_
    refine o_iast (n := 145) (L := 24) rfl rfl rfl rfl rfl (by omega) (by omega) ?_
    refine o_iinc_6 (n := 148) rfl rfl rfl (by omega) ?_
    refine o_goto (t := 114) rfl rfl ?_
    rw [gcpy_s x0 (by omega)]
    exact ih (k + 1) (by omega) (by omega)
theorem l8_pr {i j : Int} (hS : am_St r) (i0 : 0 ≤ i) (i1 : i < 8) (j0 : 0 ≤ j) (l0 : 0 ≤ llr g i) (l6 : llr g i ≤ 6) (r0 : 0 ≤ lrr g i) (r6 : lrr g i ≤ 6) (j1 : j + llr g i ≤ g 8 0 14) (w : g 8 0 14 ≤ 24) (nl : g 8 0 14 + (lrr g i - llr g i) ≤ 24) (u0 : 0 ≤ g 24 0 i) (u1 : g 24 0 i ≤ 1000000) (s0 : 0 ≤ g 8 0 15) (s1 : g 8 0 15 ≤ 1000000) (hd : 0 < lrr g i - llr g i) : ∀ (m : Nat) (v : Int), (v + 1 = j + llr g i + m) → (v < g 8 0 14) → Ou 177 40 [vR 8 0, vI i, vI j, vI (llr g i), vI (lrr g i), vI (lrr g i - llr g i), vI v] [] (gcpy g 25 0 (v + 1) 25 0 (v + 1 + (lrr g i - llr g i)) (g 8 0 14 - 1 - v)) r (Rq none (PuF g i j) r) := by
  intro m
  induction m with
  | zero =>
    intro v x0 x1
    have hv : v + 1 = j + llr g i := by omega
    rw [show g 8 0 14 - 1 - v = g 8 0 14 - (j + llr g i) by omega, hv, show j + llr g i + (lrr g i - llr g i) = j + lrr g i by omega]
    have L := l8_ps (g := g) (r := r) hS i0 i1 j0 l0 l6 r0 r6 j1 w nl u0 u1 s0 s1 (lrr g i).toNat 0 (by omega) (by omega)
    rw [gcpy_0] at L
    refine o_iload (n := 42) rfl rfl rfl ?_
    refine o_iload_n (n := 43) rfl rfl rfl ?_
    refine o_iload_n (n := 44) rfl rfl rfl ?_
    refine o_iadd (n := 45) rfl rfl (by omega) ?_
    refine o_icmp_lt (n := 48) (t := 71) rfl rfl rfl (fun q45 => ?_) (fun q45 => (by exfalso; omega))
    refine o_goto (t := 111) rfl rfl ?_
    refine o_iconst (n := 112) rfl rfl ?_
    refine o_istore_6 (n := 114) rfl rfl rfl ?_
    exact L
  | succ m ih =>
    intro v x0 x1
    refine o_iload (n := 42) rfl rfl rfl ?_
    refine o_iload_n (n := 43) rfl rfl rfl ?_
    refine o_iload_n (n := 44) rfl rfl rfl ?_
    refine o_iadd (n := 45) rfl rfl (by omega) ?_
    refine o_icmp_lt (n := 48) (t := 71) rfl rfl rfl (fun q45 => (by exfalso; omega)) (fun q45 => ?_)
    refine o_aload_n (n := 49) rfl rfl rfl ?_
    refine of_8_13 (n := 52) hS rfl rfl ?_
    refine o_iload (n := 54) rfl rfl rfl ?_
    refine o_iload (n := 56) rfl rfl rfl ?_
    refine o_iadd (n := 57) rfl rfl (by omega) ?_
    refine o_aload_n (n := 58) rfl rfl rfl ?_
    refine of_8_13 (n := 61) hS rfl rfl ?_
    refine o_iload (n := 63) rfl rfl rfl ?_
    refine o_iald (n := 64) (L := 24) rfl rfl rfl rfl rfl (by omega) (by omega) ?_
    refine o_iast (n := 65) (L := 24) rfl rfl rfl rfl rfl (by omega) (by omega) ?_
    refine o_iinc_6 (n := 68) rfl rfl rfl (by omega) ?_
    refine o_goto (t := 40) rfl rfl ?_
    have e := gcpy_d (g := g) (k := 25) (i := 0) (v := v) (d := lrr g i - llr g i) (n := g 8 0 14 - 1 - v) (by omega) hd
    rw [e]
    have := ih (v - 1) (by omega) (by omega)
    rw [show v - 1 + 1 = v by omega, show g 8 0 14 - 1 - (v - 1) = g 8 0 14 - 1 - v + 1 by omega] at this
    rw [show v + -1 = v - 1 by omega]
    exact this
theorem l8_pl {i j : Int} (hS : am_St r) (i0 : 0 ≤ i) (i1 : i < 8) (j0 : 0 ≤ j) (l0 : 0 ≤ llr g i) (l6 : llr g i ≤ 6) (r0 : 0 ≤ lrr g i) (r6 : lrr g i ≤ 6) (j1 : j + llr g i ≤ g 8 0 14) (w : g 8 0 14 ≤ 24) (nl : g 8 0 14 + (lrr g i - llr g i) ≤ 24) (u0 : 0 ≤ g 24 0 i) (u1 : g 24 0 i ≤ 1000000) (s0 : 0 ≤ g 8 0 15) (s1 : g 8 0 15 ≤ 1000000) (hd : lrr g i - llr g i ≤ 0) : ∀ (m : Nat) (k v : Int), (0 ≤ k) → (k + m = g 8 0 14 - (j + llr g i)) → (v = j + llr g i + k) → Ou 177 79 [vR 8 0, vI i, vI j, vI (llr g i), vI (lrr g i), vI (lrr g i - llr g i), vI v] [] (gcpy g 25 0 (j + llr g i) 25 0 (j + llr g i + (lrr g i - llr g i)) k) r (Rq none (PuF g i j) r) := by
  intro m
  induction m with
  | zero =>
    intro k v x0 x1 ev
    have hk : k = g 8 0 14 - (j + llr g i) := by omega
    subst hk
    rw [show j + llr g i + (lrr g i - llr g i) = j + lrr g i by omega]
    have L := l8_ps (g := g) (r := r) hS i0 i1 j0 l0 l6 r0 r6 j1 w nl u0 u1 s0 s1 (lrr g i).toNat 0 (by omega) (by omega)
    rw [gcpy_0] at L
    refine o_iload (n := 81) rfl rfl rfl ?_
    refine o_aload_n (n := 82) rfl rfl rfl ?_
    refine o_geti (n := 85) rfl rfl rfl rfl rfl ?_
    rw [gcpy_kf (by decide)]
    refine o_icmp_ge (n := 88) (t := 111) rfl rfl rfl (fun q85 => ?_) (fun q85 => (by exfalso; omega))
    refine o_iconst (n := 112) rfl rfl ?_
    refine o_istore_6 (n := 114) rfl rfl rfl ?_
    exact L
  | succ m ih =>
    intro k v x0 x1 ev
    subst ev
    refine o_iload (n := 81) rfl rfl rfl ?_
    refine o_aload_n (n := 82) rfl rfl rfl ?_
    refine o_geti (n := 85) rfl rfl rfl rfl rfl ?_
    rw [gcpy_kf (by decide)]
    refine o_icmp_ge (n := 88) (t := 111) rfl rfl rfl (fun q85 => (by exfalso; omega)) (fun q85 => ?_)
    refine o_aload_n (n := 89) rfl rfl rfl ?_
    refine of_8_13 (n := 92) hS rfl rfl ?_
    refine o_iload (n := 94) rfl rfl rfl ?_
    refine o_iload (n := 96) rfl rfl rfl ?_
    refine o_iadd (n := 97) rfl rfl (by omega) ?_
    refine o_aload_n (n := 98) rfl rfl rfl ?_
    refine of_8_13 (n := 101) hS rfl rfl ?_
    refine o_iload (n := 103) rfl rfl rfl ?_
    refine o_iald (n := 104) (L := 24) rfl rfl rfl rfl rfl (by omega) (by omega) ?_
    refine o_iast (n := 105) (L := 24) rfl rfl rfl rfl rfl (by omega) (by omega) ?_
    refine o_iinc_6 (n := 108) rfl rfl rfl (by omega) ?_
    refine o_goto (t := 79) rfl rfl ?_
    have e := gcpy_s (g := g) (k1 := 25) (k2 := 25) (i1 := 0) (i2 := 0) (p := j + llr g i) (q := j + llr g i + (lrr g i - llr g i)) (v := k) x0 (by omega)
    rw [show j + llr g i + k + (lrr g i - llr g i) = j + llr g i + (lrr g i - llr g i) + k by omega, e]
    exact ih (k + 1) _ (by omega) (by omega) (by omega)
theorem c8_puts {i j : Int} (hS : am_St r) (i0 : 0 ≤ i) (i1 : i < 8) (j0 : 0 ≤ j) (l0 : 0 ≤ llr g i) (l6 : llr g i ≤ 6) (r0 : 0 ≤ lrr g i) (r6 : lrr g i ≤ 6) (j1 : j + llr g i ≤ g 8 0 14) (w : g 8 0 14 ≤ 24) (nl : g 8 0 14 + (lrr g i - llr g i) ≤ 24) (u0 : 0 ≤ g 24 0 i) (u1 : g 24 0 i ≤ 1000000) (s0 : 0 ≤ g 8 0 15) (s1 : g 8 0 15 ≤ 1000000) : Rt 177 [vR 8 0, vI i, vI j] g r none (PuF g i j) r := by
  refine rt_of ?_
  show Ou 177 0 [vR 8 0, vI i, vI j, vN, vN, vN, vN] [] g r _
  have el : g 23 0 (2 * i) = llr g i := rfl
  have er : g 23 0 (2 * i + 1) = lrr g i := rfl
  refine o_aload_n (n := 1) rfl rfl rfl ?_
  refine of_8_10 (n := 4) hS rfl rfl ?_
  refine o_iconst (n := 5) rfl rfl ?_
  refine o_iload_n (n := 6) rfl rfl rfl ?_
  refine o_imul (n := 7) rfl rfl (by omega) ?_
  refine o_iald (n := 8) (L := 16) rfl rfl rfl rfl rfl (by omega) (by omega) ?_
  rw [el]
  refine o_istore_3 (n := 9) rfl rfl rfl ?_
  refine o_aload_n (n := 10) rfl rfl rfl ?_
  refine of_8_10 (n := 13) hS rfl rfl ?_
  refine o_iconst (n := 14) rfl rfl ?_
  refine o_iload_n (n := 15) rfl rfl rfl ?_
  refine o_imul (n := 16) rfl rfl (by omega) ?_
  refine o_iconst (n := 17) rfl rfl ?_
  refine o_iadd (n := 18) rfl rfl (by omega) ?_
  refine o_iald (n := 19) (L := 16) rfl rfl rfl rfl rfl (by omega) (by omega) ?_
  rw [er]
  refine o_istore_4 (n := 21) rfl rfl rfl ?_
  refine o_iload (n := 23) rfl rfl rfl ?_
  refine o_iload_n (n := 24) rfl rfl rfl ?_
  refine o_isub (n := 25) rfl rfl (by omega) ?_
  refine o_istore_5 (n := 27) rfl rfl rfl ?_
  refine o_iload (n := 29) rfl rfl rfl ?_
  refine o_if_le (n := 32) (t := 74) rfl rfl rfl (fun q29 => ?_) (fun q29 => ?_)
  · refine o_iload_n (n := 75) rfl rfl rfl ?_
    refine o_iload_n (n := 76) rfl rfl rfl ?_
    refine o_iadd (n := 77) rfl rfl (by omega) ?_
    refine o_istore_6 (n := 79) rfl rfl rfl ?_
    have L := l8_pl (g := g) (r := r) hS i0 i1 j0 l0 l6 r0 r6 j1 w nl u0 u1 s0 s1 (by omega) (g 8 0 14 - (j + llr g i)).toNat 0 (j + llr g i) (by omega) (by omega) (by omega)
    rw [gcpy_0] at L
    exact L
  · refine o_aload_n (n := 33) rfl rfl rfl ?_
    refine o_geti (n := 36) rfl rfl rfl rfl rfl ?_
    refine o_iconst (n := 37) rfl rfl ?_
    refine o_isub (n := 38) rfl rfl (by omega) ?_
    refine o_istore_6 (n := 40) rfl rfl rfl ?_
    have L := l8_pr (g := g) (r := r) hS i0 i1 j0 l0 l6 r0 r6 j1 w nl u0 u1 s0 s1 (by omega) (g 8 0 14 - (j + llr g i)).toNat (g 8 0 14 - 1) (by omega) (by omega)
    rw [show g 8 0 14 - 1 - (g 8 0 14 - 1) = 0 by omega, gcpy_0] at L
    exact L
theorem l8_step {B : Int} (hI : Iv c g0 g r0) (hS : am_St r) (c1 : c ≤ 4000) (u : Us g B) (hB : B + 1 ≤ 40 * c) : ∀ (m : Nat) (k : Int) (t : AV), (0 ≤ k) → (k + m = g 8 0 8) → Ou 178 2 [vR 8 0, vI k, t] [] g r (fun x g1 r1 => x = some (vI (stX g (fi m k (fun i => plc g i ≠ -1) (-1)))) ∧ r1 = r ∧ g1 = SfX g (fi m k (fun i => plc g i ≠ -1) (-1))) := by
  intro m
  induction m with
  | zero =>
    intro k t i0 i1
    obtain ⟨⟨hS0, hR, h6, hP⟩, hsg, htx, hru, hwd, hnw, hst, hsh, hla⟩ := id hI
    have ru1 := hru.2.1.1
    have w1 := hwd.2.1.1
    have w3 := hwd.2.2.2
    refine o_iload_n (n := 3) rfl rfl rfl ?_
    refine o_aload_n (n := 4) rfl rfl rfl ?_
    refine o_geti (n := 7) rfl rfl rfl rfl rfl ?_
    refine o_icmp_ge (n := 10) (t := 67) rfl rfl rfl (fun q7 => ?_) (fun q7 => (by exfalso; omega))
    refine o_bipush (n := 69) rfl rfl ?_
    refine o_iret rfl rfl ?_
    refine ⟨?_, rfl, ?_⟩
    · show _ = some (vI (stX g (-1)))
      unfold stX; rw [cif_t rfl]
    · show g = SfX g (-1)
      unfold SfX; rw [cif_t rfl]
  | succ m ih =>
    intro k t i0 i1
    obtain ⟨⟨hS0, hR, h6, hP⟩, hsg, htx, hru, hwd, hnw, hst, hsh, hla⟩ := id hI
    have ru1 := hru.2.1.1
    have w1 := hwd.2.1.1
    have w3 := hwd.2.2.2
    have hsl := ru_s hru i0 (show k < g 8 0 8 by omega) (Or.inl rfl)
    have hsr := ru_s hru i0 (show k < g 8 0 8 by omega) (Or.inr rfl)
    have hus := hru.2.2 k i0 (by omega)
    have hub := u.1 k i0 (by omega)
    have husb := u.2
    have bl : 0 ≤ llr g k ∧ llr g k ≤ 6 := by have := hsl.2.1; rw [Int.add_zero] at this; exact this
    have br : 0 ≤ lrr g k ∧ lrr g k ≤ 6 := hsr.2.1
    have el : g 23 0 (2 * k) = llr g k := rfl
    have er : g 23 0 (2 * k + 1) = lrr g k := rfl
    refine o_iload_n (n := 3) rfl rfl rfl ?_
    refine o_aload_n (n := 4) rfl rfl rfl ?_
    refine o_geti (n := 7) rfl rfl rfl rfl rfl ?_
    refine o_icmp_ge (n := 10) (t := 67) rfl rfl rfl (fun q7 => (by exfalso; omega)) (fun q7 => ?_)
    refine o_aload_n (n := 11) rfl rfl rfl ?_
    refine o_iload_n (n := 12) rfl rfl rfl ?_
    have hp := c8_placeOf (g := g) hS k i0 (by omega) (by omega) (by omega) (by omega) (by omega)
    have hp : Rt 176 [vR 8 0, vI k] g r (some (vI (plc g k))) g r := hp
    refine o_invi (n := 15) rfl rfl rfl rfl rfl rfl rfl rfl rfl rfl (hp) ?_
    refine o_istore_2 (n := 16) rfl rfl rfl ?_
    refine o_iload_n (n := 17) rfl rfl rfl ?_
    refine o_iconst (n := 18) rfl rfl ?_
    refine o_icmp_eq (n := 21) (t := 61) rfl rfl rfl (fun q18 => ?_) (fun q18 => ?_)
    · refine o_iinc_1 (n := 64) rfl rfl rfl (by omega) ?_
      refine o_goto (t := 2) rfl rfl ?_
      have hz : plc g k = -1 := by omega
      rw [fi_f (p := fun i => plc g i ≠ -1) (fun z => z hz)]
      exact ih (k + 1) _ (by omega) (by omega)
    · refine o_aload_n (n := 22) rfl rfl rfl ?_
      refine o_geti (n := 25) rfl rfl rfl rfl rfl ?_
      refine o_aload_n (n := 26) rfl rfl rfl ?_
      refine of_8_10 (n := 29) hS rfl rfl ?_
      refine o_iconst (n := 30) rfl rfl ?_
      refine o_iload_n (n := 31) rfl rfl rfl ?_
      refine o_imul (n := 32) rfl rfl (by omega) ?_
      refine o_iconst (n := 33) rfl rfl ?_
      refine o_iadd (n := 34) rfl rfl (by omega) ?_
      refine o_iald (n := 35) (L := 16) rfl rfl rfl rfl rfl (by omega) (by omega) ?_
      rw [er]
      refine o_iadd (n := 36) rfl rfl (by omega) ?_
      refine o_aload_n (n := 37) rfl rfl rfl ?_
      refine of_8_10 (n := 40) hS rfl rfl ?_
      refine o_iconst (n := 41) rfl rfl ?_
      refine o_iload_n (n := 42) rfl rfl rfl ?_
      refine o_imul (n := 43) rfl rfl (by omega) ?_
      refine o_iald (n := 44) (L := 16) rfl rfl rfl rfl rfl (by omega) (by omega) ?_
      rw [el]
      refine o_isub (n := 45) rfl rfl (by omega) ?_
      refine o_bipush (n := 47) rfl rfl ?_
      refine o_icmp_le (n := 50) (t := 53) rfl rfl rfl (fun q47 => ?_) (fun q47 => ?_)
      · refine o_aload_n (n := 54) rfl rfl rfl ?_
        refine o_iload_n (n := 55) rfl rfl rfl ?_
        refine o_iload_n (n := 56) rfl rfl rfl ?_
        have hpl := plc_p (h := g) (i := k) (by omega) (by omega)
        refine o_invv (n := 59) rfl rfl rfl rfl rfl rfl rfl rfl rfl rfl (c8_puts hS i0 (by omega) hpl.1 bl.1 bl.2 br.1 br.2 hpl.2 (by omega) (by omega) (by omega) (by omega) (by omega) (by omega)) ?_
        refine o_iload_n (n := 60) rfl rfl rfl ?_
        refine o_iret rfl rfl ?_
        have hz : plc g k ≠ -1 := by omega
        rw [fi_t (p := fun i => plc g i ≠ -1) hz]
        have hk1 : k ≠ -1 := by omega
        unfold stX SfX
        first
          | (have hov : g 8 0 14 + (lrr g k - llr g k) ≤ 24 := by omega
             rw [cif_f hk1, cif_f hk1, cif_t hov, cif_t hov]
             exact ⟨rfl, rfl, rfl⟩)
          | (have hov : ¬ g 8 0 14 + (lrr g k - llr g k) ≤ 24 := by omega
             rw [cif_f hk1, cif_f hk1, cif_f hov, cif_f hov]
             exact ⟨rfl, rfl, rfl⟩)
      · refine o_bipush (n := 52) rfl rfl ?_
        refine o_iret rfl rfl ?_
        have hz : plc g k ≠ -1 := by omega
        rw [fi_t (p := fun i => plc g i ≠ -1) hz]
        have hk1 : k ≠ -1 := by omega
        unfold stX SfX
        first
          | (have hov : g 8 0 14 + (lrr g k - llr g k) ≤ 24 := by omega
             rw [cif_f hk1, cif_f hk1, cif_t hov, cif_t hov]
             exact ⟨rfl, rfl, rfl⟩)
          | (have hov : ¬ g 8 0 14 + (lrr g k - llr g k) ≤ 24 := by omega
             rw [cif_f hk1, cif_f hk1, cif_f hov, cif_f hov]
             exact ⟨rfl, rfl, rfl⟩)
theorem c8_stepNow {B : Int} (hI : Iv c g0 g r0) (hS : am_St r) (c1 : c ≤ 4000) (u : Us g B) (hB : B + 1 ≤ 40 * c) : Ou 178 0 (am_ini 178 [vR 8 0]) [] g r (fun x g1 r1 => x = some (vI (stV g)) ∧ r1 = r ∧ g1 = StF g) := by
  show Ou 178 0 [vR 8 0, vN, vN] [] g r _
  refine o_iconst (n := 1) rfl rfl ?_
  refine o_istore_1 (n := 2) rfl rfl rfl ?_
  have ru1 := hI.2.2.2.1.2.1.1
  exact l8_step hI hS c1 u hB (g 8 0 8).toNat 0 _ (by omega) (by omega)
theorem c8_stepX {B : Int} (hI : Iv c g0 g r0) (hS : am_St r) (c1 : c ≤ 4000) (u : Us g B) (hB : B + 1 ≤ 40 * c) : Ou 179 0 (am_ini 179 [vR 8 0]) [] g r (fun x g1 r1 => x = some (vI (stV g)) ∧ r1 = r ∧ g1 = StF g) := by
  show Ou 179 0 [vR 8 0] [] g r _
  refine o_aload_n (n := 1) rfl rfl rfl ?_
  obtain ⟨v1, g1, r1, hc, e1, e2, e3⟩ := rt_ex (c8_stepNow hI hS c1 u hB)
  subst e1
  subst e2
  refine o_invi (n := 4) rfl rfl rfl rfl rfl rfl rfl rfl rfl rfl (hc) ?_
  refine o_iret rfl rfl ?_
  first | (exfalso; omega; done) | exact ⟨rfl, rfl, e3⟩
end STEP
