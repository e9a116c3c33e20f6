/-! stage. Written by wip/gen/gen46.py -/
def Fm (g g1 : GI) : Prop := ∀ k, isM k ∨ k = 34 ∨ k = 35 → g1 k = g k
theorem Fm_refl (g : GI) : Fm g g := fun _ _ => rfl
theorem Fm_tr {g g1 g2 : GI} (a : Fm g g1) (b : Fm g1 g2) : Fm g g2 := fun k h => (b k h).trans (a k h)
theorem Fm_J {g r g1 r1 : GI} (f : FJ g r g1 r1) : Fm g g1 := fun k h => f.1 k (by unfold isM at h; omega) (by unfold isM at h; omega)
def FH (H g g1 : GI) : Prop := Ag H g1 ∧ ∀ k, ¬ isM k → g1 k = g k
theorem Ag_M {g g1 : GI} (h : ∀ k, isM k → g1 k = g k) : Ag g g1 := ⟨fun k a _ => h k (by unfold isM; omega), fun s _ => by rw [h 26 (by unfold isM; omega)]⟩
/-- pairs out of contracts with a heap foreseen -/
theorem pr_H {m7 m8 : Nat} {as : List AV} (V : GI → AV) (Hf : GI → GI)
    (h7 : ∀ c g h r, 0 ≤ c → c ≤ 3072 → Iv c g h r → Ou m7 0 (am_ini m7 (vR 7 0 :: as)) [] g r (fun x g1 r1 => x = some (V h) ∧ Fm g g1 ∧ Iv (c + 1) g1 (Hf h) r1))
    (h8 : ∀ c g0 g r0 r, Iv c g0 g r0 → am_St r → Ou m8 0 (am_ini m8 (vR 8 0 :: as)) [] g r (fun x g1 r1 => x = some (V g) ∧ r1 = r ∧ FH (Hf g) g g1))
    (hV : ∀ h h1, Ag h h1 → V h1 = V h) (hH : ∀ h h1, Ag h h1 → Ag (Hf h) (Hf h1)) : Pr m7 m8 as := by
  refine pr_G (fun c g r c0 c1 i => ⟨some (V g), Hf g, h7 c g g r c0 c1 i, fun g1 r1 hM hS => ?_⟩)
  have a := Ag_M hM
  obtain ⟨n, v, g2, r2, e1, e2, e3, e4⟩ := h8 c g g1 r r1 (Iv_h hM i) hS
  exact ⟨n, v, g2, r2, e1, by rw [e2, hV g g1 a], e3, Ag_tr (hH g g1 a) e4.1, e4.2⟩
noncomputable def snv (h : GI) : Int := FB8 h 8 (st8 h (h 8 0 19))
noncomputable def sgV (h : GI) : Int := cif (snv h = 0) (-3) (snv h)
noncomputable def SgN (h : GI) : GI := cif (snv h = 0) h (Sgf h (snv h))
theorem snv_c {h h1 : GI} (a : Ag h h1) : snv h1 = snv h := by
  unfold snv
  rw [st8_m (a.1 8 (by omega) (by decide)) (a.1 29 (by omega) (by decide)), a.1 8 (by omega) (by decide)]
  exact FB8_c (by rw [a.1 8 (by omega) (by decide)]) (by rw [a.1 8 (by omega) (by decide)]) (by rw [a.1 27 (by omega) (by decide)]) (by rw [a.1 28 (by omega) (by decide)]) (E8_c (by omega) (fun s _ _ => a.2 s (by omega))) (by rw [a.1 22 (by omega) (by decide)]) (by rw [a.1 23 (by omega) (by decide)])
theorem SgN_c {h h1 : GI} (a : Ag h h1) : Ag (SgN h) (SgN h1) := by
  unfold SgN
  rw [snv_c a]
  by_cases e : snv h = 0
  · rw [cif_t e, cif_t e]; exact a
  · rw [cif_f e, cif_f e]; exact Sgf_c a
theorem mvf_k {h : GI} {a b : Int} {k : Nat} (x : k ≠ 26) (y : k ≠ 27) (z : k ≠ 28) : mvf h a b k = h k := by
  unfold mvf
  rw [gset_kf z, gset_kf y, gcpy_kf x]
theorem Sgf_F {g g1 : GI} {v : Int} (f : F8 g g1) : FH (Sgf g v) g (gset (gset (mvf g1 8 (g 8 0 19)) 29 0 (g 8 0 19) v) 8 0 19 (g 8 0 19 + 1)) := by
  refine ⟨?_, ?_⟩
  · have := Sgf_c (v := v) (FM_Ag (FM_8 f))
    unfold Sgf at this ⊢
    rw [f 8 (by decide) (by decide) (by decide)] at this
    exact this
  · intro k hk
    have hk : ¬ (k = 8 ∨ (17 ≤ k ∧ k ≤ 33)) := hk
    rw [gset_kf (by omega), gset_kf (by omega), mvf_k (by omega) (by omega) (by omega)]
    exact f k (by omega) (by omega) (by omega)
theorem Fm_L {g r : GI} {v : Int} : Fm g (Lyf g r v) := fun k h => by
  have h : (k = 8 ∨ (17 ≤ k ∧ k ≤ 33)) ∨ k = 34 ∨ k = 35 := h
  unfold Lyf
  rw [gset_kf (by omega), tkf_k (by omega) (by omega), gset_kf (by omega)]
section STAGE
variable {c : Int} {g h r g0 r0 : GI}
theorem c7_stage (hI : Iv c g h r) : Ou 60 0 (am_ini 60 [vR 7 0]) [] g r (fun x g1 r1 => x = some (vI (sgV h)) ∧ Fm g g1 ∧ Iv (c + 1) g1 (SgN h) r1) := by
  show Ou 60 0 [vR 7 0, vN] [] g r _
  obtain ⟨⟨hS, hR, h6, hP⟩, hsg, htx, hru, hwd, hnw, hst, hsh, hla⟩ := id hI
  obtain ⟨sg1, sg2, sg3⟩ := hI.2.1
  obtain ⟨tx1, tx2, tx3, tx4⟩ := hI.2.2.1
  have ru0 : g 7 0 10 = h 8 0 8 := hI.2.2.2.1.1.1
  have ru1 := hI.2.2.2.1.2.1.1
  have wd0 : g 1 0 1 = h 8 0 14 := hI.2.2.2.2.1.1.1
  have wd1 := hI.2.2.2.2.1.2.1.1
  have wd2 := hI.2.2.2.2.1.2.2
  have nw0 : g 0 0 0 = h 27 0 8 := hI.2.2.2.2.2.1.1.1
  have nw1 : g 0 0 1 = h 28 0 8 := hI.2.2.2.2.2.1.1.2.1
  have nw2 := hI.2.2.2.2.2.1.2.1
  have nw3 := hI.2.2.2.2.2.1.2.2.1
  have st0 := hI.2.2.2.2.2.2.1.1
  have st1 := hI.2.2.2.2.2.2.1.2.1
  have st2 := hI.2.2.2.2.2.2.1.2.2.1
  have la0 : g 7 0 13 = h 8 0 4 := hI.2.2.2.2.2.2.2.2
  refine o_aload_n (n := 1) rfl rfl rfl ?_
  refine o_aload_n (n := 2) rfl rfl rfl ?_
  refine of_7_5 (n := 5) hS rfl rfl ?_
  refine o_aload_n (n := 6) rfl rfl rfl ?_
  refine o_invi (n := 9) rfl rfl rfl rfl rfl rfl rfl rfl rfl rfl (c7_standingBits hS hR (by omega) (by omega) (by omega) (by omega)) ?_
  obtain ⟨g1, r1, hc, f1⟩ := c7_fallG hI (e := 0) (st := st7 g r (g 7 0 11)) (by omega) (by omega) hnw.2 hnw.1
  have ev : FB (h 27 0 8) (h 28 0 8) (E8 h 8) (h 8 0 5) (h 8 0 8) (L8 h) (W8 h) (st7 g r (g 7 0 11)) = snv h := by
    rw [st78 hst ru0 (by omega), st0]; rfl
  rw [ev] at hc
  have hI1 := Iv_GJ f1 hI
  refine o_invi (n := 12) rfl rfl rfl rfl rfl rfl rfl rfl rfl rfl (hc) ?_
  refine o_istore_1 (n := 13) rfl rfl rfl ?_
  refine o_iload_n (n := 14) rfl rfl rfl ?_
  refine o_if_ne (n := 17) (t := 20) rfl rfl rfl (fun q14 => ?_) (fun q14 => ?_)
  · refine o_aload_n (n := 21) rfl rfl rfl ?_
    refine o_iload_n (n := 22) rfl rfl rfl ?_
    obtain ⟨v2, g2, r2, hc2, e1, e2, e3⟩ := rt_ex (c7_layStage hI1 (v := snv h) rfl (by omega))
    subst e1
    subst e2
    subst e3
    refine o_invv (n := 25) rfl rfl rfl rfl rfl rfl rfl rfl rfl rfl (hc2) ?_
    refine o_iload_n (n := 26) rfl rfl rfl ?_
    refine o_iret rfl rfl ?_
    first
      | (exfalso; omega; done)
      | (have hz : snv h = 0 := by assumption
         refine ⟨?_, Fm_J f1, ?_⟩
         · unfold sgV; rw [cif_t hz]
         · unfold SgN; rw [cif_t hz]; exact Iv_G (by omega) (fun _ _ => rfl) (Ag_refl _) (fun _ _ => rfl) hI1.1.2.2.1 hI1)
      | (have hz : ¬ snv h = 0 := by omega
         refine ⟨?_, Fm_tr (Fm_J f1) Fm_L, ?_⟩
         · unfold sgV; rw [cif_f hz]
         · unfold SgN; rw [cif_f hz]; have hI2 := Iv_lay hI1 (v := snv h) rfl hz; exact Iv_G (by omega) (fun _ _ => rfl) (Ag_refl _) (fun _ _ => rfl) hI2.1.2.2.1 hI2)
  · refine o_bipush (n := 19) rfl rfl ?_
    refine o_iret rfl rfl ?_
    first
      | (exfalso; omega; done)
      | (have hz : snv h = 0 := by assumption
         refine ⟨?_, Fm_J f1, ?_⟩
         · unfold sgV; rw [cif_t hz]
         · unfold SgN; rw [cif_t hz]; exact Iv_G (by omega) (fun _ _ => rfl) (Ag_refl _) (fun _ _ => rfl) hI1.1.2.2.1 hI1)
      | (have hz : ¬ snv h = 0 := by omega
         refine ⟨?_, Fm_tr (Fm_J f1) Fm_L, ?_⟩
         · unfold sgV; rw [cif_f hz]
         · unfold SgN; rw [cif_f hz]; have hI2 := Iv_lay hI1 (v := snv h) rfl hz; exact Iv_G (by omega) (fun _ _ => rfl) (Ag_refl _) (fun _ _ => rfl) hI2.1.2.2.1 hI2)
theorem c8_stageNow (hI : Iv c g0 g r0) (hS : am_St r) : Ou 158 0 (am_ini 158 [vR 8 0]) [] g r (fun x g1 r1 => x = some (vI (sgV g)) ∧ r1 = r ∧ FH (SgN g) g g1) := by
  show Ou 158 0 [vR 8 0, vN] [] g r _
  obtain ⟨⟨hS0, hR, h6, hP⟩, hsg, htx, hru, hwd, hnw, hst, hsh, hla⟩ := id hI
  obtain ⟨sg1, sg2, sg3⟩ := hI.2.1
  obtain ⟨tx1, tx2, tx3, tx4⟩ := hI.2.2.1
  have ru0 : g0 7 0 10 = g 8 0 8 := hI.2.2.2.1.1.1
  have ru1 := hI.2.2.2.1.2.1.1
  have wd0 : g0 1 0 1 = g 8 0 14 := hI.2.2.2.2.1.1.1
  have wd1 := hI.2.2.2.2.1.2.1.1
  have wd2 := hI.2.2.2.2.1.2.2
  have nw0 : g0 0 0 0 = g 27 0 8 := hI.2.2.2.2.2.1.1.1
  have nw1 : g0 0 0 1 = g 28 0 8 := hI.2.2.2.2.2.1.1.2.1
  have nw2 := hI.2.2.2.2.2.1.2.1
  have nw3 := hI.2.2.2.2.2.1.2.2.1
  have st0 := hI.2.2.2.2.2.2.1.1
  have st1 := hI.2.2.2.2.2.2.1.2.1
  have st2 := hI.2.2.2.2.2.2.1.2.2.1
  have la0 : g0 7 0 13 = g 8 0 4 := hI.2.2.2.2.2.2.2.2
  have room : snv g ≠ 0 → g 8 0 19 < 8 := fun z => st_room hst (by omega) (d := 8) z
  refine o_aload_n (n := 1) rfl rfl rfl ?_
  refine o_bipush (n := 3) rfl rfl ?_
  refine o_aload_n (n := 4) rfl rfl rfl ?_
  refine o_aload_n (n := 5) rfl rfl rfl ?_
  refine o_geti (n := 8) rfl rfl rfl rfl rfl ?_
  refine o_invi (n := 11) rfl rfl rfl rfl rfl rfl rfl rfl rfl rfl (c8_leftBehind hS (by omega) (by omega) _ (by omega) (by omega)) ?_
  obtain ⟨g1, hc, f1⟩ := c8_fallG hI hS (d := 8) (st := st8 g (g 8 0 19)) (by omega) (by omega) hnw.2 (Vr8_E 8)
  have hc : Rt 141 [vR 8 0, vI 8, vI (st8 g (g 8 0 19))] g r (some (vI (snv g))) g1 r := hc
  have e8 := f1 8 (by decide) (by decide) (by decide)
  refine o_invi (n := 14) rfl rfl rfl rfl rfl rfl rfl rfl rfl rfl (hc) ?_
  refine o_istore_1 (n := 15) rfl rfl rfl ?_
  refine o_iload_n (n := 16) rfl rfl rfl ?_
  refine o_if_ne (n := 19) (t := 22) rfl rfl rfl (fun q16 => ?_) (fun q16 => ?_)
  · refine o_aload_n (n := 23) rfl rfl rfl ?_
    refine o_bipush (n := 25) rfl rfl ?_
    refine o_aload_n (n := 26) rfl rfl rfl ?_
    refine o_geti (n := 29) rfl rfl rfl rfl rfl ?_
    first
      | rw [e8]
      | rw [gset_k rfl, mvf_k (by decide) (by decide) (by decide), e8]
      | rw [mvf_k (by decide) (by decide) (by decide), e8]
    have room2 := room (by omega)
    refine o_invv (n := 32) rfl rfl rfl rfl rfl rfl rfl rfl rfl rfl (c8_moves hS (by omega) (by omega) (by omega) (by omega) (by omega)) ?_
    refine o_aload_n (n := 33) rfl rfl rfl ?_
    refine of_8_20 (n := 36) hS rfl rfl ?_
    refine o_aload_n (n := 37) rfl rfl rfl ?_
    refine o_geti (n := 40) rfl rfl rfl rfl rfl ?_
    first
      | rw [e8]
      | rw [gset_k rfl, mvf_k (by decide) (by decide) (by decide), e8]
      | rw [mvf_k (by decide) (by decide) (by decide), e8]
    refine o_iload_n (n := 41) rfl rfl rfl ?_
    refine o_iast (n := 42) (L := 8) rfl rfl rfl rfl rfl (by omega) (by omega) ?_
    refine o_aload_n (n := 43) rfl rfl rfl ?_
    refine o_dup (n := 44) rfl rfl rfl ?_
    refine o_geti (n := 47) rfl rfl rfl rfl rfl ?_
    first
      | rw [e8]
      | rw [gset_k rfl, mvf_k (by decide) (by decide) (by decide), e8]
      | rw [mvf_k (by decide) (by decide) (by decide), e8]
    refine o_iconst (n := 48) rfl rfl ?_
    refine o_iadd (n := 49) rfl rfl (by omega) ?_
    refine o_puti (n := 52) rfl rfl rfl rfl rfl ?_
    refine o_iload_n (n := 53) rfl rfl rfl ?_
    refine o_iret rfl rfl ?_
    first
      | (exfalso; omega; done)
      | (have hz : snv g = 0 := by assumption
         refine ⟨?_, rfl, ?_⟩
         · unfold sgV; rw [cif_t hz]
         · unfold SgN; rw [cif_t hz]; exact ⟨FM_Ag (FM_8 f1), fun k hk => f1 k (by unfold isM at hk; omega) (by unfold isM at hk; omega) (by unfold isM at hk; omega)⟩)
      | (have hz : ¬ snv g = 0 := by omega
         refine ⟨?_, rfl, ?_⟩
         · unfold sgV; rw [cif_f hz]
         · unfold SgN; rw [cif_f hz]; exact Sgf_F f1)
  · refine o_bipush (n := 21) rfl rfl ?_
    refine o_iret rfl rfl ?_
    first
      | (exfalso; omega; done)
      | (have hz : snv g = 0 := by assumption
         refine ⟨?_, rfl, ?_⟩
         · unfold sgV; rw [cif_t hz]
         · unfold SgN; rw [cif_t hz]; exact ⟨FM_Ag (FM_8 f1), fun k hk => f1 k (by unfold isM at hk; omega) (by unfold isM at hk; omega) (by unfold isM at hk; omega)⟩)
      | (have hz : ¬ snv g = 0 := by omega
         refine ⟨?_, rfl, ?_⟩
         · unfold sgV; rw [cif_f hz]
         · unfold SgN; rw [cif_f hz]; exact Sgf_F f1)
theorem c8_stage (hI : Iv c g0 g r0) (hS : am_St r) : Ou 159 0 (am_ini 159 [vR 8 0]) [] g r (fun x g1 r1 => x = some (vI (sgV g)) ∧ r1 = r ∧ FH (SgN g) g g1) := by
  show Ou 159 0 [vR 8 0] [] g r _
  refine o_aload_n (n := 1) rfl rfl rfl ?_
  obtain ⟨v1, g1, r1, hc, e1, e2, e3⟩ := rt_ex (c8_stageNow hI hS)
  subst e1
  subst e2
  refine o_invi (n := 4) rfl rfl rfl rfl rfl rfl rfl rfl rfl rfl (hc) ?_
  refine o_iret rfl rfl ?_
  first | (exfalso; omega; done) | exact ⟨rfl, rfl, e3⟩
theorem p_stage : Pr 60 159 [] := pr_H (fun h => vI (sgV h)) SgN (fun c g h r _ _ hI => c7_stage hI) (fun c g0 g r0 r hI hS => c8_stage hI hS) (fun h h1 a => by show vI (sgV h1) = vI (sgV h); unfold sgV; rw [snv_c a]) (fun h h1 a => SgN_c a)
end STAGE
