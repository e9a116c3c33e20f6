/-! search and auto. Written by wip/gen/gen49.py -/
theorem rt_det {b : Nat} {as : List AV} {g r g1 r1 g2 r2 : GI} {v v' : Option AV} (h1 : Rt b as g r v g1 r1) (h2 : Rt b as g r v' g2 r2) : v = v' := by
  obtain ⟨n, e1⟩ := h1
  obtain ⟨m, e2⟩ := h2
  have a := am_mono' (Nat.le_max_left n m) e1
  have b := am_mono' (Nat.le_max_right n m) e2
  rw [a] at b
  exact (Prod.mk.inj (Option.some.inj b)).1
section AUTO
variable {c : Int} {g h r g0 r0 : GI} {b : Int}
theorem tno_r (hb0 : 1 ≤ b) (hb1 : b ≤ 9) : 1 ≤ tno h b ∧ tno h b ≤ 81920 := tr_r hb0 hb1 (by omega) (by omega)
theorem snv_Etf {t : Int} (hb0 : 1 ≤ b) (hb1 : b ≤ 9) (hI : Iv c g h r) : snv (Etf h b t) = FBt h b t := by
  obtain ⟨⟨hS, hR, h6, hP⟩, hsg, htx, hru, hwd, hnw, hst, hsh, hla⟩ := hI
  have m1 := hsg.1
  have m2 := hsg.2.1
  have m3 := hsg.2.2
  have H : ∀ k, k ≠ 26 → Etf h b t k = h k := fun k e => Etf_k e
  have eb : Br (h 27 0 8) (h 28 0 8) (Eto h b t) := Et_b hb0 hb1 hnw.2
  have hU : Vu8 (Etf h b t) (h 8 0 8) (L8 h) (W8 h) := by
    have := Vu8_E (h := h) hru.2.1.1.1
    unfold Vu8 Vw at this ⊢
    rw [H 8 (by decide), H 22 (by decide), H 23 (by decide)]; exact this
  have e8 : ∀ s x y, 0 ≤ s → s < 4 → 0 ≤ x → x < 3 → 0 ≤ y → y < 3 → Etf h b t 26 0 (36 * 8 + 9 * s + 3 * x + y) = Eto h b t s x y := fun s x y a0 a1 b0 b1 c0 c1 => by
    rw [show 36 * 8 + 9 * s + 3 * x + y = 288 + 9 * s + 3 * x + y by omega, Etf_i a0 a1 b0 b1 c0 c1]
  have V1 : Vr8 (Etf h b t) 8 (h 27 0 8) (h 28 0 8) (Eto h b t) := ⟨by rw [H 27 (by decide)], by rw [H 28 (by decide)], e8⟩
  have V2 : Vr8 (Etf h b t) 8 (h 27 0 8) (h 28 0 8) (E8 (Etf h b t) 8) := ⟨by rw [H 27 (by decide)], by rw [H 28 (by decide)], (Vr8_E 8).2.2⟩
  have eb2 : Br (h 27 0 8) (h 28 0 8) (E8 (Etf h b t) 8) := ⟨eb.1, eb.2.1, fun s x y a0 a1 b0 b1 c0 c1 => by
    rw [E8_i a0 a1 b0 b1 c0 c1, e8 s x y a0 a1 b0 b1 c0 c1]; exact eb.2.2 s x y a0 a1 b0 b1 c0 c1⟩
  obtain ⟨v1, g1, r1, hc1, e1, _⟩ := rt_ex (c8_falling (m := h 8 0 5) hS (d := 8) (by omega) (by omega) eb V1 hru.2.1 hU (st8 h (h 8 0 19)) (by omega) (by omega) (by rw [H 8 (by decide)]))
  obtain ⟨v2, g2, r2, hc2, e2, _⟩ := rt_ex (c8_falling (m := h 8 0 5) hS (d := 8) (by omega) (by omega) eb2 V2 hru.2.1 hU (st8 h (h 8 0 19)) (by omega) (by omega) (by rw [H 8 (by decide)]))
  have e := rt_det hc2 hc1
  rw [e1, e2] at e
  have e : FB (h 27 0 8) (h 28 0 8) (E8 (Etf h b t) 8) (h 8 0 5) (h 8 0 8) (L8 h) (W8 h) (st8 h (h 8 0 19)) = FB (h 27 0 8) (h 28 0 8) (Eto h b t) (h 8 0 5) (h 8 0 8) (L8 h) (W8 h) (st8 h (h 8 0 19)) := by
    have := Option.some.inj e
    injection this
  unfold snv FB8 FBt
  rw [← e, st8_m (H 8 (by decide)) (H 29 (by decide)), H 8 (by decide), H 27 (by decide), H 28 (by decide), L8_c (by rw [H 23 (by decide)]), W8_c (by rw [H 22 (by decide)])]
theorem st_room2 (i : Ist g h r) (hR : h 8 0 8 ≤ 8) {t : Int} (hf : FBt h b t ≠ 0) : h 8 0 19 < 8 := by
  have i0 := i.2.1
  have hin : inI (FBt h b t) := by
    unfold FBt FB
    by_cases c : sd (h 27 0 8) (h 28 0 8) (Eto h b t) (h 8 0 5)
    · rw [cif_t c]; exact fbl_in (by omega)
    · rw [cif_f c]; omega
  obtain ⟨k, k0, k1⟩ := ex_tb hin hf
  unfold FBt at k1
  obtain ⟨k3, k4⟩ := FB_tb hR k0 k1
  have h1 := st_cnt i hR (h 8 0 19).toNat (by omega)
  rw [show (((h 8 0 19).toNat : Nat) : Int) = h 8 0 19 by omega] at h1
  have h2 := cntb_lt (x := st8 h (h 8 0 19)) (y := 0) (n := 8) (j := k) (fun q _ q1 => by rw [tb_0] at q1; cases q1) (by omega) k4 (tb_0 k)
  omega
theorem sef_p (e : sef h b ≠ -1) : FBt h b (sef h b) ≠ 0 ∧ 0 ≤ sef h b := by
  rcases fi_range (d := -1) (p := fun t => FBt h b t ≠ 0) (n := (tno h b).toNat) (k := 0) with w | ⟨w1, _, w2, _⟩
  · exact absurd w e
  · exact ⟨w2, w1⟩
theorem sef_full (i : Ist g h r) (hR : h 8 0 8 ≤ 8) (e : 8 ≤ h 8 0 19) : sef h b = -1 := by
  by_cases z : sef h b = -1
  · exact z
  · have := st_room2 i hR (sef_p z).1
    omega
noncomputable def auh (b : Int) : Nat → GI → GI
  | 0, h => h
  | n + 1, h => cif (sef h b = -1) h (auh b n (SgN (Sft h b (sef h b))))
noncomputable def auc (b : Int) : Nat → GI → Int → Int
  | 0, _, k => k
  | n + 1, h, k => cif (sef h b = -1) k (auc b n (SgN (Sft h b (sef h b))) (k + 1))
theorem Sft_c {h1 : GI} {t : Int} (a : Ag h h1) : Ag (Sft h b t) (Sft h1 b t) := by
  unfold Sft
  by_cases e : t = -1
  · rw [cif_t e, cif_t e]; exact a
  · rw [cif_f e, cif_f e]; exact Etf_c a
theorem auh_c : ∀ {n : Nat} {h h1 : GI}, Ag h h1 → Ag (auh b n h) (auh b n h1)
  | 0, _, _, a => a
  | n + 1, h, h1, a => by
    unfold auh
    rw [sef_c a]
    by_cases e : sef h b = -1
    · rw [cif_t e, cif_t e]; exact a
    · rw [cif_f e, cif_f e]; exact auh_c (SgN_c (Sft_c a))
theorem auc_c : ∀ {n : Nat} {h h1 : GI} {k : Int}, Ag h h1 → auc b n h1 k = auc b n h k
  | 0, _, _, _, _ => rfl
  | n + 1, h, h1, k, a => by
    unfold auc
    rw [sef_c a]
    by_cases e : sef h b = -1
    · rw [cif_t e, cif_t e]
    · rw [cif_f e, cif_f e]; exact auc_c (SgN_c (Sft_c a))
theorem Iv_Ag {H : GI} (a : Ag h H) (i : Iv c g h r) : Iv c g H r := Iv_G (Int.le_refl c) (fun _ _ => rfl) a (fun _ _ => rfl) i.1.2.2.1 i
theorem Iv_SgN (i : Iv c g h r) : ∃ g', Iv c g' (SgN h) r := by
  unfold SgN
  by_cases e : snv h = 0
  · rw [cif_t e]; exact ⟨g, i⟩
  · rw [cif_f e]; exact ⟨_, Iv_lay i rfl e⟩
theorem tno_Sft {t : Int} : tno (Sft h b t) b = tno h b := by
  unfold Sft
  by_cases e : t = -1
  · rw [cif_t e]
  · rw [cif_f e]; unfold tno; rw [Etf_k (by decide), Etf_k (by decide)]
theorem tno_SgN (i : Iv c g h r) : tno (SgN h) b = tno h b := by
  unfold SgN
  by_cases e : snv h = 0
  · rw [cif_t e]
  · rw [cif_f e]
    have room := st_room i.2.2.2.2.2.2.1 i.2.2.2.1.2.1.1.2 (d := 8) e
    unfold tno Sgf mvf
    rw [gset_s (by decide), gset_k rfl, gset_k rfl, gset_k rfl, gcpy_kf (by decide), gset_k rfl, gset_k rfl, gset_s (by omega), gset_k rfl, gcpy_kf (by decide)]
theorem cnt_Sft {t : Int} : Sft h b t 8 = h 8 := by
  unfold Sft
  by_cases e : t = -1
  · rw [cif_t e]
  · rw [cif_f e]; exact Etf_k (by decide)
noncomputable def seV (h : GI) (b : Int) : Int := cif (1 ≤ b ∧ b ≤ 9) (cif (tno h b ≤ 8192) (sef h b) (-3)) (-2)
noncomputable def SeH (h : GI) (b : Int) : GI := cif (1 ≤ b ∧ b ≤ 9) (cif (tno h b ≤ 8192) (Sft h b (sef h b)) h) h
noncomputable def auV (h : GI) (b : Int) : Int := cif (1 ≤ b ∧ b ≤ 9) (cif (tno h b ≤ 8192) (auc b 9 h 0) (-3)) (-2)
noncomputable def AuH (h : GI) (b : Int) : GI := cif (1 ≤ b ∧ b ≤ 9) (cif (tno h b ≤ 8192) (auh b 9 h) h) h
theorem Iv_1 (i : Iv c g h r) : Iv (c + 1) g h r := Iv_G (by omega) (fun _ _ => rfl) (Ag_refl h) (fun _ _ => rfl) i.1.2.2.1 i
theorem c7_search (b : Int) (hI : Iv c g h r) : Ou 66 0 (am_ini 66 [vR 7 0, vI b]) [] g r (fun x g1 r1 => x = some (vI (seV h b)) ∧ Fm g g1 ∧ Iv (c + 1) g1 (SeH h b) r1) := by
  show Ou 66 0 [vR 7 0, vI b, vN] [] g r _
  obtain ⟨⟨hS, hR, h6, hP⟩, hsg, htx, hru, hwd, hnw, hst, hsh, hla⟩ := id hI
  obtain ⟨sg1, sg2, sg3⟩ := hI.2.1
  obtain ⟨tx1, tx2, tx3, tx4⟩ := hI.2.2.1
  have ru0 : g 7 0 10 = h 8 0 8 := hI.2.2.2.1.1.1
  have ru1 := hI.2.2.2.1.2.1.1
  have wd0 : g 1 0 1 = h 8 0 14 := hI.2.2.2.2.1.1.1
  have wd1 := hI.2.2.2.2.1.2.1.1
  have wd2 := hI.2.2.2.2.1.2.2
  have nw0 : g 0 0 0 = h 27 0 8 := hI.2.2.2.2.2.1.1.1
  have nw1 : g 0 0 1 = h 28 0 8 := hI.2.2.2.2.2.1.1.2.1
  have nw2 := hI.2.2.2.2.2.1.2.1
  have nw3 := hI.2.2.2.2.2.1.2.2.1
  have st0 := hI.2.2.2.2.2.2.1.1
  have st1 := hI.2.2.2.2.2.2.1.2.1
  have st2 := hI.2.2.2.2.2.2.1.2.2.1
  have la0 : g 7 0 13 = h 8 0 4 := hI.2.2.2.2.2.2.2.2
  refine o_iload_n (n := 1) rfl rfl rfl ?_
  refine o_iconst (n := 2) rfl rfl ?_
  refine o_icmp_lt (n := 5) (t := 11) rfl rfl rfl (fun q2 => ?_) (fun q2 => ?_)
  · refine o_bipush (n := 13) rfl rfl ?_
    refine o_iret rfl rfl ?_
    first
      | (exfalso; omega; done)
      | (refine ⟨?_, f2, ?_⟩
         · unfold seV; rw [cif_t (by omega), cif_t (by omega)]
         · unfold SeH; rw [cif_t (by omega), cif_t (by omega)]; exact Iv_1 hI2)
      | (refine ⟨?_, Fm_refl g, ?_⟩
         · unfold seV; first | rw [cif_f (by omega)] | rw [cif_t (by omega), cif_f (by omega)]
         · unfold SeH; first | (rw [cif_f (by omega)]; exact Iv_1 hI) | (rw [cif_t (by omega), cif_f (by omega)]; exact Iv_1 hI))
  · refine o_iload_n (n := 6) rfl rfl rfl ?_
    refine o_bipush (n := 8) rfl rfl ?_
    refine o_icmp_le (n := 11) (t := 14) rfl rfl rfl (fun q8 => ?_) (fun q8 => ?_)
    · refine o_aload_n (n := 15) rfl rfl rfl ?_
      refine o_iload_n (n := 16) rfl rfl rfl ?_
      have ct := c7_triesWith (g := g) hS b (by omega) (by omega) (by omega) (by omega) (by omega) (by omega)
      rw [← sg3, nw1] at ct
      have ct : Rt 104 [vR 7 0, vI b] g r (some (vI (tno h b))) g r := ct
      have tr1 := tno_r (h := h) (b := b) (by omega) (by omega)
      refine o_invi (n := 19) rfl rfl rfl rfl rfl rfl rfl rfl rfl rfl (ct) ?_
      refine o_istore_2 (n := 20) rfl rfl rfl ?_
      refine o_iload_n (n := 21) rfl rfl rfl ?_
      refine o_sipush (n := 24) rfl rfl ?_
      refine o_icmp_le (n := 27) (t := 30) rfl rfl rfl (fun q24 => ?_) (fun q24 => ?_)
      · refine o_aload_n (n := 31) rfl rfl rfl ?_
        refine o_iload_n (n := 32) rfl rfl rfl ?_
        refine o_iload_n (n := 33) rfl rfl rfl ?_
        obtain ⟨v2, g2, r2, hc2, e1, f2, hI2⟩ := rt_ex (c7_tell hI (b := b) (by omega) (by omega) (by omega) (by omega))
        subst e1
        refine o_invi (n := 36) rfl rfl rfl rfl rfl rfl rfl rfl rfl rfl (hc2) ?_
        refine o_iret rfl rfl ?_
        first
          | (exfalso; omega; done)
          | (refine ⟨?_, f2, ?_⟩
             · unfold seV; rw [cif_t (by omega), cif_t (by omega)]
             · unfold SeH; rw [cif_t (by omega), cif_t (by omega)]; exact Iv_1 hI2)
          | (refine ⟨?_, Fm_refl g, ?_⟩
             · unfold seV; first | rw [cif_f (by omega)] | rw [cif_t (by omega), cif_f (by omega)]
             · unfold SeH; first | (rw [cif_f (by omega)]; exact Iv_1 hI) | (rw [cif_t (by omega), cif_f (by omega)]; exact Iv_1 hI))
      · refine o_bipush (n := 29) rfl rfl ?_
        refine o_iret rfl rfl ?_
        first
          | (exfalso; omega; done)
          | (refine ⟨?_, f2, ?_⟩
             · unfold seV; rw [cif_t (by omega), cif_t (by omega)]
             · unfold SeH; rw [cif_t (by omega), cif_t (by omega)]; exact Iv_1 hI2)
          | (refine ⟨?_, Fm_refl g, ?_⟩
             · unfold seV; first | rw [cif_f (by omega)] | rw [cif_t (by omega), cif_f (by omega)]
             · unfold SeH; first | (rw [cif_f (by omega)]; exact Iv_1 hI) | (rw [cif_t (by omega), cif_f (by omega)]; exact Iv_1 hI))
    · refine o_bipush (n := 13) rfl rfl ?_
      refine o_iret rfl rfl ?_
      first
        | (exfalso; omega; done)
        | (refine ⟨?_, f2, ?_⟩
           · unfold seV; rw [cif_t (by omega), cif_t (by omega)]
           · unfold SeH; rw [cif_t (by omega), cif_t (by omega)]; exact Iv_1 hI2)
        | (refine ⟨?_, Fm_refl g, ?_⟩
           · unfold seV; first | rw [cif_f (by omega)] | rw [cif_t (by omega), cif_f (by omega)]
           · unfold SeH; first | (rw [cif_f (by omega)]; exact Iv_1 hI) | (rw [cif_t (by omega), cif_f (by omega)]; exact Iv_1 hI))
theorem l7_auto (hb0 : 1 ≤ b) (hb1 : b ≤ 9) {T : Int} (hT : T ≤ 8192) : ∀ (m : Nat) (k : Int) (g1 h1 r1 : GI), (0 ≤ k) → (k + m = 8) → (Fm g g1) → (Iv c g1 h1 r1) → (tno h1 b = T) → (8 ≤ h1 8 0 19 + m) → Ou 67 32 [vR 7 0, vI b, vI T, vI k] [] g1 r1 (fun x g2 r2 => x = some (vI (auc b (m + 1) h1 k)) ∧ Fm g g2 ∧ Iv c g2 (auh b (m + 1) h1) r2) := by
  intro m
  induction m with
  | zero =>
    intro k g1 h1 r1 i0 i1 fm hI iT i2
    obtain ⟨⟨hS, hR, h6, hP⟩, hsg, htx, hru, hwd, hnw, hst, hsh, hla⟩ := id hI
    have tr1 := tno_r (h := h1) (b := b) hb0 hb1
    have hz := sef_full (b := b) hst hru.2.1.1.2 (by omega)
    have hk : k = 8 := by omega
    subst hk
    refine o_iload_n (n := 33) rfl rfl rfl ?_
    refine o_bipush (n := 35) rfl rfl ?_
    refine o_icmp_ge (n := 38) (t := 72) rfl rfl rfl (fun q35 => ?_) (fun q35 => (by exfalso; omega))
    refine o_bipush (n := 74) rfl rfl ?_
    refine o_iret rfl rfl ?_
    refine ⟨?_, fm, ?_⟩
    · unfold auc; rw [cif_t hz]
    · unfold auh; rw [cif_t hz]; exact hI
  | succ m ih =>
    intro k g1 h1 r1 i0 i1 fm hI iT i2
    obtain ⟨⟨hS, hR, h6, hP⟩, hsg, htx, hru, hwd, hnw, hst, hsh, hla⟩ := id hI
    have tr1 := tno_r (h := h1) (b := b) hb0 hb1
    subst iT
    refine o_iload_n (n := 33) rfl rfl rfl ?_
    refine o_bipush (n := 35) rfl rfl ?_
    refine o_icmp_ge (n := 38) (t := 72) rfl rfl rfl (fun q35 => (by exfalso; omega)) (fun q35 => ?_)
    refine o_aload_n (n := 39) rfl rfl rfl ?_
    refine o_iload_n (n := 40) rfl rfl rfl ?_
    refine o_iload_n (n := 41) rfl rfl rfl ?_
    obtain ⟨v2, g2, r2, hc2, e1, f2, hI2⟩ := rt_ex (c7_tell hI (b := b) hb0 hb1 (by omega) (by omega))
    subst e1
    obtain ⟨⟨kS, kR, k6, kP⟩, ksg, ktx, kru, kwd, knw, kst, ksh, kla⟩ := id hI2
    have hS := kS
    have k1 := kst.1
    have k2 := kst.2.1
    have k3 := kst.2.2.1
    have k4 := kru.2.1.1
    have k5 : g2 7 0 10 = (Sft h1 b (sef h1 b)) 8 0 8 := kru.1.1
    refine o_invi (n := 44) rfl rfl rfl rfl rfl rfl rfl rfl rfl rfl (hc2) ?_
    refine o_iconst (n := 45) rfl rfl ?_
    refine o_icmp_ne (n := 48) (t := 50) rfl rfl rfl (fun q45 => ?_) (fun q45 => ?_)
    · refine o_aload_n (n := 51) rfl rfl rfl ?_
      refine o_aload_n (n := 52) rfl rfl rfl ?_
      refine o_aload_n (n := 53) rfl rfl rfl ?_
      refine of_7_5 (n := 56) hS rfl rfl ?_
      refine o_aload_n (n := 57) rfl rfl rfl ?_
      refine o_invi (n := 60) rfl rfl rfl rfl rfl rfl rfl rfl rfl rfl (c7_standingBits kS kR (by omega) (by omega) (by omega) (by omega)) ?_
      rw [st78 kst k5 (by omega), k1]
      obtain ⟨g3, r3, hc3, f3⟩ := c7_fallG hI2 (e := 0) (st := st7 g2 r2 (g2 7 0 11)) (by omega) (by omega) knw.2 knw.1
      rw [st78 kst k5 (by omega), k1] at hc3
      have hc3 : Rt 102 [vR 7 0, vR 0 0, vI (st8 (Sft h1 b (sef h1 b)) ((Sft h1 b (sef h1 b)) 8 0 19))] g2 r2 (some (vI (snv (Sft h1 b (sef h1 b))))) g3 r3 := hc3
      have hI3 := Iv_GJ f3 hI2
      have hz : sef h1 b ≠ -1 := by omega
      have hsn : snv (Sft h1 b (sef h1 b)) ≠ 0 := by
        have e : Sft h1 b (sef h1 b) = Etf h1 b (sef h1 b) := cif_f hz
        rw [e, snv_Etf hb0 hb1 hI]
        exact (sef_p hz).1
      refine o_invi (n := 63) rfl rfl rfl rfl rfl rfl rfl rfl rfl rfl (hc3) ?_
      obtain ⟨v4, g4, r4, hc4, e1, e2, e3⟩ := rt_ex (c7_layStage hI3 (v := snv (Sft h1 b (sef h1 b))) rfl hsn)
      subst e1
      subst e2
      subst e3
      refine o_invv (n := 66) rfl rfl rfl rfl rfl rfl rfl rfl rfl rfl (hc4) ?_
      refine o_iinc_3 (n := 69) rfl rfl rfl (by omega) ?_
      refine o_goto (t := 32) rfl rfl ?_
      have e : SgN (Sft h1 b (sef h1 b)) = Sgf (Sft h1 b (sef h1 b)) (snv (Sft h1 b (sef h1 b))) := cif_f hsn
      have hI4 := Iv_lay hI3 (v := snv (Sft h1 b (sef h1 b))) rfl hsn
      rw [← e] at hI4
      have ec : SgN (Sft h1 b (sef h1 b)) 8 0 19 = h1 8 0 19 + 1 := by
        rw [e]
        unfold Sgf
        rw [gset_at, cnt_Sft]
      have := ih (k + 1) _ _ _ (by omega) (by omega) (Fm_tr (Fm_tr (Fm_tr fm f2) (Fm_J f3)) Fm_L) hI4 (by rw [tno_SgN hI2, tno_Sft]) (by rw [ec]; omega)
      have a1 : auc b (m + 1 + 1) h1 k = auc b (m + 1) (SgN (Sft h1 b (sef h1 b))) (k + 1) := cif_f hz
      have a2 : auh b (m + 1 + 1) h1 = auh b (m + 1) (SgN (Sft h1 b (sef h1 b))) := cif_f hz
      rw [a1, a2]
      exact this
    · refine o_iload_n (n := 49) rfl rfl rfl ?_
      refine o_iret rfl rfl ?_
      have hz : sef h1 b = -1 := by omega
      refine ⟨?_, Fm_tr fm f2, ?_⟩
      · unfold auc; rw [cif_t hz]
      · unfold auh; rw [cif_t hz]
        rw [hz] at hI2
        have e : Sft h1 b (-1) = h1 := cif_t rfl
        rw [e] at hI2
        exact hI2
theorem c7_auto (b : Int) (hI : Iv c g h r) : Ou 67 0 (am_ini 67 [vR 7 0, vI b]) [] g r (fun x g1 r1 => x = some (vI (auV h b)) ∧ Fm g g1 ∧ Iv (c + 1) g1 (AuH h b) r1) := by
  show Ou 67 0 [vR 7 0, vI b, vN, vN] [] g r _
  obtain ⟨⟨hS, hR, h6, hP⟩, hsg, htx, hru, hwd, hnw, hst, hsh, hla⟩ := id hI
  obtain ⟨sg1, sg2, sg3⟩ := hI.2.1
  obtain ⟨tx1, tx2, tx3, tx4⟩ := hI.2.2.1
  have ru0 : g 7 0 10 = h 8 0 8 := hI.2.2.2.1.1.1
  have ru1 := hI.2.2.2.1.2.1.1
  have wd0 : g 1 0 1 = h 8 0 14 := hI.2.2.2.2.1.1.1
  have wd1 := hI.2.2.2.2.1.2.1.1
  have wd2 := hI.2.2.2.2.1.2.2
  have nw0 : g 0 0 0 = h 27 0 8 := hI.2.2.2.2.2.1.1.1
  have nw1 : g 0 0 1 = h 28 0 8 := hI.2.2.2.2.2.1.1.2.1
  have nw2 := hI.2.2.2.2.2.1.2.1
  have nw3 := hI.2.2.2.2.2.1.2.2.1
  have st0 := hI.2.2.2.2.2.2.1.1
  have st1 := hI.2.2.2.2.2.2.1.2.1
  have st2 := hI.2.2.2.2.2.2.1.2.2.1
  have la0 : g 7 0 13 = h 8 0 4 := hI.2.2.2.2.2.2.2.2
  refine o_iload_n (n := 1) rfl rfl rfl ?_
  refine o_iconst (n := 2) rfl rfl ?_
  refine o_icmp_lt (n := 5) (t := 11) rfl rfl rfl (fun q2 => ?_) (fun q2 => ?_)
  · refine o_bipush (n := 13) rfl rfl ?_
    refine o_iret rfl rfl ?_
    first
      | (exfalso; omega; done)
      | (refine ⟨?_, f2, ?_⟩
         · unfold auV; rw [cif_t (by omega), cif_t (by omega)]
         · unfold AuH; rw [cif_t (by omega), cif_t (by omega)]; exact Iv_1 hI2)
      | (refine ⟨?_, Fm_refl g, ?_⟩
         · unfold auV; first | rw [cif_f (by omega)] | rw [cif_t (by omega), cif_f (by omega)]
         · unfold AuH; first | (rw [cif_f (by omega)]; exact Iv_1 hI) | (rw [cif_t (by omega), cif_f (by omega)]; exact Iv_1 hI))
  · refine o_iload_n (n := 6) rfl rfl rfl ?_
    refine o_bipush (n := 8) rfl rfl ?_
    refine o_icmp_le (n := 11) (t := 14) rfl rfl rfl (fun q8 => ?_) (fun q8 => ?_)
    · refine o_aload_n (n := 15) rfl rfl rfl ?_
      refine o_iload_n (n := 16) rfl rfl rfl ?_
      have ct := c7_triesWith (g := g) hS b (by omega) (by omega) (by omega) (by omega) (by omega) (by omega)
      rw [← sg3, nw1] at ct
      have ct : Rt 104 [vR 7 0, vI b] g r (some (vI (tno h b))) g r := ct
      have tr1 := tno_r (h := h) (b := b) (by omega) (by omega)
      refine o_invi (n := 19) rfl rfl rfl rfl rfl rfl rfl rfl rfl rfl (ct) ?_
      refine o_istore_2 (n := 20) rfl rfl rfl ?_
      refine o_iload_n (n := 21) rfl rfl rfl ?_
      refine o_sipush (n := 24) rfl rfl ?_
      refine o_icmp_le (n := 27) (t := 30) rfl rfl rfl (fun q24 => ?_) (fun q24 => ?_)
      · refine o_iconst (n := 31) rfl rfl ?_
        refine o_istore_3 (n := 32) rfl rfl rfl ?_
        obtain ⟨n9, v9, g9, r9, w1, w2, w3, w4⟩ := l7_auto (c := c) (g := g) (b := b) (by omega) (by omega) (T := tno h b) (by omega) 8 0 g h r (by omega) (by omega) (Fm_refl g) hI rfl (by omega)
        refine ⟨n9, v9, g9, r9, w1, ?_, w3, ?_⟩
        · unfold auV; rw [cif_t (by omega), cif_t (by omega)]; exact w2
        · unfold AuH; rw [cif_t (by omega), cif_t (by omega)]; exact Iv_1 w4
      · refine o_bipush (n := 29) rfl rfl ?_
        refine o_iret rfl rfl ?_
        first
          | (exfalso; omega; done)
          | (refine ⟨?_, f2, ?_⟩
             · unfold auV; rw [cif_t (by omega), cif_t (by omega)]
             · unfold AuH; rw [cif_t (by omega), cif_t (by omega)]; exact Iv_1 hI2)
          | (refine ⟨?_, Fm_refl g, ?_⟩
             · unfold auV; first | rw [cif_f (by omega)] | rw [cif_t (by omega), cif_f (by omega)]
             · unfold AuH; first | (rw [cif_f (by omega)]; exact Iv_1 hI) | (rw [cif_t (by omega), cif_f (by omega)]; exact Iv_1 hI))
    · refine o_bipush (n := 13) rfl rfl ?_
      refine o_iret rfl rfl ?_
      first
        | (exfalso; omega; done)
        | (refine ⟨?_, f2, ?_⟩
           · unfold auV; rw [cif_t (by omega), cif_t (by omega)]
           · unfold AuH; rw [cif_t (by omega), cif_t (by omega)]; exact Iv_1 hI2)
        | (refine ⟨?_, Fm_refl g, ?_⟩
           · unfold auV; first | rw [cif_f (by omega)] | rw [cif_t (by omega), cif_f (by omega)]
           · unfold AuH; first | (rw [cif_f (by omega)]; exact Iv_1 hI) | (rw [cif_t (by omega), cif_f (by omega)]; exact Iv_1 hI))
theorem c8_search (b : Int) (hI : Iv c g0 g r0) (hS : am_St r) : Ou 173 0 (am_ini 173 [vR 8 0, vI b]) [] g r (fun x g1 r1 => x = some (vI (seV g b)) ∧ r1 = r ∧ FH (SeH g b) g g1) := by
  show Ou 173 0 [vR 8 0, vI b] [] g r _
  obtain ⟨⟨hS0, hR, h6, hP⟩, hsg, htx, hru, hwd, hnw, hst, hsh, hla⟩ := id hI
  have m1 := hsg.1
  have m2 := hsg.2.1
  have m3 := hsg.2.2
  have n2 := hnw.2.2.1
  refine o_iload_n (n := 1) rfl rfl rfl ?_
  refine o_i2l (n := 2) rfl rfl ?_
  refine o_lconst (n := 3) rfl rfl ?_
  refine o_ldc2_w (n := 6) rfl rfl ?_
  refine o_invsi (n := 9) rfl rfl rfl rfl rfl rfl (c8_in _ _ _) ?_
  refine o_ifb_ne (n := 12) (t := 15) rfl rfl rfl (fun q9 => ?_) (fun q9 => ?_)
  · refine o_aload_n (n := 16) rfl rfl rfl ?_
    refine o_iload_n (n := 17) rfl rfl rfl ?_
    have ct := c8_triesOf (g := g) hS b (by omega) (by omega) (by omega) (by omega) (by omega) (by omega)
    have ct : Rt 170 [vR 8 0, vI b] g r (some (vI (tno g b))) g r := ct
    have tr1 := tno_r (h := g) (b := b) (by omega) (by omega)
    refine o_invi (n := 20) rfl rfl rfl rfl rfl rfl rfl rfl rfl rfl (ct) ?_
    refine o_sipush (n := 23) rfl rfl ?_
    refine o_icmp_le (n := 26) (t := 31) rfl rfl rfl (fun q23 => ?_) (fun q23 => ?_)
    · refine o_aload_n (n := 32) rfl rfl rfl ?_
      refine o_iload_n (n := 33) rfl rfl rfl ?_
      obtain ⟨v2, g2, r2, hc2, e1, e2, f2⟩ := rt_ex (c8_searchBy hI hS (b := b) (by omega) (by omega) (by omega) (by omega))
      subst e1
      subst e2
      refine o_invi (n := 36) rfl rfl rfl rfl rfl rfl rfl rfl rfl rfl (hc2) ?_
      refine o_iret rfl rfl ?_
      first
        | (exfalso; omega; done)
        | (have hf := f2
           refine ⟨?_, rfl, ?_⟩
           · unfold seV; rw [cif_t (by omega), cif_t (by omega)]
           · unfold SeH; rw [cif_t (by omega), cif_t (by omega)]; exact hf)
        | (refine ⟨?_, rfl, ?_⟩
           · unfold seV; first | rw [cif_f (by omega)] | rw [cif_t (by omega), cif_f (by omega)]
           · unfold SeH; first | (rw [cif_f (by omega)]; exact ⟨Ag_refl g, fun _ _ => rfl⟩) | (rw [cif_t (by omega), cif_f (by omega)]; exact ⟨Ag_refl g, fun _ _ => rfl⟩))
    · refine o_bipush (n := 28) rfl rfl ?_
      refine o_goto (t := 36) rfl rfl ?_
      refine o_iret rfl rfl ?_
      first
        | (exfalso; omega; done)
        | (have hf := f2
           refine ⟨?_, rfl, ?_⟩
           · unfold seV; rw [cif_t (by omega), cif_t (by omega)]
           · unfold SeH; rw [cif_t (by omega), cif_t (by omega)]; exact hf)
        | (refine ⟨?_, rfl, ?_⟩
           · unfold seV; first | rw [cif_f (by omega)] | rw [cif_t (by omega), cif_f (by omega)]
           · unfold SeH; first | (rw [cif_f (by omega)]; exact ⟨Ag_refl g, fun _ _ => rfl⟩) | (rw [cif_t (by omega), cif_f (by omega)]; exact ⟨Ag_refl g, fun _ _ => rfl⟩))
  · refine o_bipush (n := 14) rfl rfl ?_
    refine o_iret rfl rfl ?_
    first
      | (exfalso; omega; done)
      | (have hf := f2
         refine ⟨?_, rfl, ?_⟩
         · unfold seV; rw [cif_t (by omega), cif_t (by omega)]
         · unfold SeH; rw [cif_t (by omega), cif_t (by omega)]; exact hf)
      | (refine ⟨?_, rfl, ?_⟩
         · unfold seV; first | rw [cif_f (by omega)] | rw [cif_t (by omega), cif_f (by omega)]
         · unfold SeH; first | (rw [cif_f (by omega)]; exact ⟨Ag_refl g, fun _ _ => rfl⟩) | (rw [cif_t (by omega), cif_f (by omega)]; exact ⟨Ag_refl g, fun _ _ => rfl⟩))
theorem l8_autoZ {g1 : GI} {k : Int} (j : Int) : Ou 174 36 [vR 8 0, vI b, vI k, vI 0, vI j] [] g1 r (fun x g2 r2 => x = some (vI (k)) ∧ r2 = r ∧ FH (g1) g1 g2) := by
  refine o_iload (n := 38) rfl rfl rfl ?_
  refine o_bipush (n := 40) rfl rfl ?_
  refine o_icmp_ge (n := 43) (t := 80) rfl rfl rfl (fun q40 => ?_) (fun q40 => ?_)
  · refine o_iload_n (n := 81) rfl rfl rfl ?_
    refine o_iret rfl rfl ?_
    first | (exfalso; omega; done) | exact ⟨rfl, rfl, Ag_refl g1, fun _ _ => rfl⟩
  · refine o_iload_n (n := 44) rfl rfl rfl ?_
    refine o_if_eq (n := 47) (t := 80) rfl rfl rfl (fun q44 => ?_) (fun q44 => (by exfalso; omega))
    refine o_iload_n (n := 81) rfl rfl rfl ?_
    refine o_iret rfl rfl ?_
    first | (exfalso; omega; done) | exact ⟨rfl, rfl, Ag_refl g1, fun _ _ => rfl⟩
theorem l8_auto (hS : am_St r) (hb0 : 1 ≤ b) (hb1 : b ≤ 9) : ∀ (m : Nat) (k : Int) (g1 : GI), (0 ≤ k) → (k + m = 9) → (∃ g0 r0, Iv c g0 g1 r0) → (tno g1 b ≤ 8192) → Ou 174 36 [vR 8 0, vI b, vI k, vI 1, vI k] [] g1 r (fun x g2 r2 => x = some (vI (auc b m g1 k)) ∧ r2 = r ∧ FH (auh b m g1) g1 g2) := by
  intro m
  induction m with
  | zero =>
    intro k g1 i0 i1 iE hT
    obtain ⟨g0, r0, hI⟩ := iE
    have tr1 := tno_r (h := g1) (b := b) hb0 hb1
    refine o_iload (n := 38) rfl rfl rfl ?_
    refine o_bipush (n := 40) rfl rfl ?_
    refine o_icmp_ge (n := 43) (t := 80) rfl rfl rfl (fun q40 => ?_) (fun q40 => (by exfalso; omega))
    refine o_iload_n (n := 81) rfl rfl rfl ?_
    refine o_iret rfl rfl ?_
    first | (exfalso; omega; done) | exact ⟨rfl, rfl, Ag_refl g1, fun _ _ => rfl⟩
  | succ m ih =>
    intro k g1 i0 i1 iE hT
    obtain ⟨g0, r0, hI⟩ := iE
    have tr1 := tno_r (h := g1) (b := b) hb0 hb1
    refine o_iload (n := 38) rfl rfl rfl ?_
    refine o_bipush (n := 40) rfl rfl ?_
    refine o_icmp_ge (n := 43) (t := 80) rfl rfl rfl (fun q40 => (by exfalso; omega)) (fun q40 => ?_)
    refine o_iload_n (n := 44) rfl rfl rfl ?_
    refine o_if_eq (n := 47) (t := 80) rfl rfl rfl (fun q44 => (by exfalso; omega)) (fun q44 => ?_)
    refine o_aload_n (n := 48) rfl rfl rfl ?_
    refine o_iload_n (n := 49) rfl rfl rfl ?_
    obtain ⟨v2, g2, r2, hc2, e1, e2, f2⟩ := rt_ex (c8_searchBy hI hS (b := b) hb0 hb1 (by omega) (by omega))
    subst e1
    subst e2
    obtain ⟨_, ga, ra, _, _, _, hIa⟩ := rt_ex (c7_tell hI (b := b) hb0 hb1 (by omega) (by omega))
    have hI2 := Iv_Ag f2.1 hIa
    refine o_invi (n := 52) rfl rfl rfl rfl rfl rfl rfl rfl rfl rfl (hc2) ?_
    refine o_iconst (n := 53) rfl rfl ?_
    refine o_icmp_eq (n := 56) (t := 60) rfl rfl rfl (fun q53 => ?_) (fun q53 => ?_)
    · refine o_iconst (n := 61) rfl rfl ?_
      refine o_istore_3 (n := 62) rfl rfl rfl ?_
      refine o_iload_n (n := 63) rfl rfl rfl ?_
      refine o_if_eq (n := 66) (t := 74) rfl rfl rfl (fun q63 => ?_) (fun q63 => ?_)
      · refine o_iinc_4 (n := 77) rfl rfl rfl (by omega) ?_
        refine o_goto (t := 36) rfl rfl ?_
        first
          | (exfalso; omega; done)
          | (have hz : sef g1 b = -1 := by omega
             have a1 : auc b (m + 1) g1 k = k := cif_t hz
             have a2 : auh b (m + 1) g1 = g1 := cif_t hz
             rw [a1, a2]
             have e : Sft g1 b (sef g1 b) = g1 := cif_t hz
             rw [e] at f2
             obtain ⟨n9, v9, g9, r9, w1, w2, w3, w4⟩ := l8_autoZ (b := b) (r := r2) (g1 := g2) (k := k) (k + 1)
             exact ⟨n9, v9, g9, r9, w1, w2, w3, Ag_tr f2.1 w4.1, fun q hq => (w4.2 q hq).trans (f2.2 q hq)⟩)
          | (have hz : sef g1 b ≠ -1 := by omega
             have a1 : auc b (m + 1) g1 k = auc b m (SgN (Sft g1 b (sef g1 b))) (k + 1) := cif_f hz
             have a2 : auh b (m + 1) g1 = auh b m (SgN (Sft g1 b (sef g1 b))) := cif_f hz
             obtain ⟨gb, hIb⟩ := Iv_SgN hI2
             have ag := Ag_tr (SgN_c f2.1) f3.1
             obtain ⟨n9, v9, g9, r9, w1, w2, w3, w4⟩ := ih (k + 1) g3 (by omega) (by omega) ⟨gb, ra, Iv_Ag f3.1 hIb⟩ (by rw [tno_c f3.1, tno_SgN hI2, tno_c f2.1, tno_Sft]; exact hT)
             refine ⟨n9, v9, g9, r9, w1, ?_, w3, ?_, fun q hq => (w4.2 q hq).trans ((f3.2 q hq).trans (f2.2 q hq))⟩
             · rw [w2, a1, auc_c ag]
             · rw [a2]; exact Ag_tr (auh_c ag) w4.1)
      · refine o_aload_n (n := 67) rfl rfl rfl ?_
        obtain ⟨v3, g3, r3, hc3, e1, e2, f3⟩ := rt_ex (c8_stageNow hI2 hS)
        subst e1
        subst e2
        refine o_invi (n := 70) rfl rfl rfl rfl rfl rfl rfl rfl rfl rfl (hc3) ?_
        refine o_pop (n := 71) rfl rfl rfl ?_
        refine o_iinc_2 (n := 74) rfl rfl rfl (by omega) ?_
        refine o_iinc_4 (n := 77) rfl rfl rfl (by omega) ?_
        refine o_goto (t := 36) rfl rfl ?_
        first
          | (exfalso; omega; done)
          | (have hz : sef g1 b = -1 := by omega
             have a1 : auc b (m + 1) g1 k = k := cif_t hz
             have a2 : auh b (m + 1) g1 = g1 := cif_t hz
             rw [a1, a2]
             have e : Sft g1 b (sef g1 b) = g1 := cif_t hz
             rw [e] at f2
             obtain ⟨n9, v9, g9, r9, w1, w2, w3, w4⟩ := l8_autoZ (b := b) (r := r2) (g1 := g2) (k := k) (k + 1)
             exact ⟨n9, v9, g9, r9, w1, w2, w3, Ag_tr f2.1 w4.1, fun q hq => (w4.2 q hq).trans (f2.2 q hq)⟩)
          | (have hz : sef g1 b ≠ -1 := by omega
             have a1 : auc b (m + 1) g1 k = auc b m (SgN (Sft g1 b (sef g1 b))) (k + 1) := cif_f hz
             have a2 : auh b (m + 1) g1 = auh b m (SgN (Sft g1 b (sef g1 b))) := cif_f hz
             obtain ⟨gb, hIb⟩ := Iv_SgN hI2
             have ag := Ag_tr (SgN_c f2.1) f3.1
             obtain ⟨n9, v9, g9, r9, w1, w2, w3, w4⟩ := ih (k + 1) g3 (by omega) (by omega) ⟨gb, ra, Iv_Ag f3.1 hIb⟩ (by rw [tno_c f3.1, tno_SgN hI2, tno_c f2.1, tno_Sft]; exact hT)
             refine ⟨n9, v9, g9, r9, w1, ?_, w3, ?_, fun q hq => (w4.2 q hq).trans ((f3.2 q hq).trans (f2.2 q hq))⟩
             · rw [w2, a1, auc_c ag]
             · rw [a2]; exact Ag_tr (auh_c ag) w4.1)
    · refine o_iconst (n := 57) rfl rfl ?_
      refine o_goto (t := 61) rfl rfl ?_
      refine o_istore_3 (n := 62) rfl rfl rfl ?_
      refine o_iload_n (n := 63) rfl rfl rfl ?_
      refine o_if_eq (n := 66) (t := 74) rfl rfl rfl (fun q63 => ?_) (fun q63 => ?_)
      · refine o_iinc_4 (n := 77) rfl rfl rfl (by omega) ?_
        refine o_goto (t := 36) rfl rfl ?_
        first
          | (exfalso; omega; done)
          | (have hz : sef g1 b = -1 := by omega
             have a1 : auc b (m + 1) g1 k = k := cif_t hz
             have a2 : auh b (m + 1) g1 = g1 := cif_t hz
             rw [a1, a2]
             have e : Sft g1 b (sef g1 b) = g1 := cif_t hz
             rw [e] at f2
             obtain ⟨n9, v9, g9, r9, w1, w2, w3, w4⟩ := l8_autoZ (b := b) (r := r2) (g1 := g2) (k := k) (k + 1)
             exact ⟨n9, v9, g9, r9, w1, w2, w3, Ag_tr f2.1 w4.1, fun q hq => (w4.2 q hq).trans (f2.2 q hq)⟩)
          | (have hz : sef g1 b ≠ -1 := by omega
             have a1 : auc b (m + 1) g1 k = auc b m (SgN (Sft g1 b (sef g1 b))) (k + 1) := cif_f hz
             have a2 : auh b (m + 1) g1 = auh b m (SgN (Sft g1 b (sef g1 b))) := cif_f hz
             obtain ⟨gb, hIb⟩ := Iv_SgN hI2
             have ag := Ag_tr (SgN_c f2.1) f3.1
             obtain ⟨n9, v9, g9, r9, w1, w2, w3, w4⟩ := ih (k + 1) g3 (by omega) (by omega) ⟨gb, ra, Iv_Ag f3.1 hIb⟩ (by rw [tno_c f3.1, tno_SgN hI2, tno_c f2.1, tno_Sft]; exact hT)
             refine ⟨n9, v9, g9, r9, w1, ?_, w3, ?_, fun q hq => (w4.2 q hq).trans ((f3.2 q hq).trans (f2.2 q hq))⟩
             · rw [w2, a1, auc_c ag]
             · rw [a2]; exact Ag_tr (auh_c ag) w4.1)
      · refine o_aload_n (n := 67) rfl rfl rfl ?_
        obtain ⟨v3, g3, r3, hc3, e1, e2, f3⟩ := rt_ex (c8_stageNow hI2 hS)
        subst e1
        subst e2
        refine o_invi (n := 70) rfl rfl rfl rfl rfl rfl rfl rfl rfl rfl (hc3) ?_
        refine o_pop (n := 71) rfl rfl rfl ?_
        refine o_iinc_2 (n := 74) rfl rfl rfl (by omega) ?_
        refine o_iinc_4 (n := 77) rfl rfl rfl (by omega) ?_
        refine o_goto (t := 36) rfl rfl ?_
        first
          | (exfalso; omega; done)
          | (have hz : sef g1 b = -1 := by omega
             have a1 : auc b (m + 1) g1 k = k := cif_t hz
             have a2 : auh b (m + 1) g1 = g1 := cif_t hz
             rw [a1, a2]
             have e : Sft g1 b (sef g1 b) = g1 := cif_t hz
             rw [e] at f2
             obtain ⟨n9, v9, g9, r9, w1, w2, w3, w4⟩ := l8_autoZ (b := b) (r := r2) (g1 := g2) (k := k) (k + 1)
             exact ⟨n9, v9, g9, r9, w1, w2, w3, Ag_tr f2.1 w4.1, fun q hq => (w4.2 q hq).trans (f2.2 q hq)⟩)
          | (have hz : sef g1 b ≠ -1 := by omega
             have a1 : auc b (m + 1) g1 k = auc b m (SgN (Sft g1 b (sef g1 b))) (k + 1) := cif_f hz
             have a2 : auh b (m + 1) g1 = auh b m (SgN (Sft g1 b (sef g1 b))) := cif_f hz
             obtain ⟨gb, hIb⟩ := Iv_SgN hI2
             have ag := Ag_tr (SgN_c f2.1) f3.1
             obtain ⟨n9, v9, g9, r9, w1, w2, w3, w4⟩ := ih (k + 1) g3 (by omega) (by omega) ⟨gb, ra, Iv_Ag f3.1 hIb⟩ (by rw [tno_c f3.1, tno_SgN hI2, tno_c f2.1, tno_Sft]; exact hT)
             refine ⟨n9, v9, g9, r9, w1, ?_, w3, ?_, fun q hq => (w4.2 q hq).trans ((f3.2 q hq).trans (f2.2 q hq))⟩
             · rw [w2, a1, auc_c ag]
             · rw [a2]; exact Ag_tr (auh_c ag) w4.1)
theorem c8_auto (b : Int) (hI : Iv c g0 g r0) (hS : am_St r) : Ou 174 0 (am_ini 174 [vR 8 0, vI b]) [] g r (fun x g1 r1 => x = some (vI (auV g b)) ∧ r1 = r ∧ FH (AuH g b) g g1) := by
  show Ou 174 0 [vR 8 0, vI b, vN, vN, vN] [] g r _
  obtain ⟨⟨hS0, hR, h6, hP⟩, hsg, htx, hru, hwd, hnw, hst, hsh, hla⟩ := id hI
  have m1 := hsg.1
  have m2 := hsg.2.1
  have m3 := hsg.2.2
  have n2 := hnw.2.2.1
  refine o_iload_n (n := 1) rfl rfl rfl ?_
  refine o_i2l (n := 2) rfl rfl ?_
  refine o_lconst (n := 3) rfl rfl ?_
  refine o_ldc2_w (n := 6) rfl rfl ?_
  refine o_invsi (n := 9) rfl rfl rfl rfl rfl rfl (c8_in _ _ _) ?_
  refine o_ifb_ne (n := 12) (t := 15) rfl rfl rfl (fun q9 => ?_) (fun q9 => ?_)
  · refine o_aload_n (n := 16) rfl rfl rfl ?_
    refine o_iload_n (n := 17) rfl rfl rfl ?_
    have ct := c8_triesOf (g := g) hS b (by omega) (by omega) (by omega) (by omega) (by omega) (by omega)
    have ct : Rt 170 [vR 8 0, vI b] g r (some (vI (tno g b))) g r := ct
    have tr1 := tno_r (h := g) (b := b) (by omega) (by omega)
    refine o_invi (n := 20) rfl rfl rfl rfl rfl rfl rfl rfl rfl rfl (ct) ?_
    refine o_sipush (n := 23) rfl rfl ?_
    refine o_icmp_le (n := 26) (t := 29) rfl rfl rfl (fun q23 => ?_) (fun q23 => ?_)
    · refine o_iconst (n := 30) rfl rfl ?_
      refine o_istore_2 (n := 31) rfl rfl rfl ?_
      refine o_iconst (n := 32) rfl rfl ?_
      refine o_istore_3 (n := 33) rfl rfl rfl ?_
      refine o_iconst (n := 34) rfl rfl ?_
      refine o_istore_4 (n := 36) rfl rfl rfl ?_
      obtain ⟨n9, v9, g9, r9, w1, w2, w3, w4⟩ := l8_auto (c := c) (b := b) hS (by omega) (by omega) 9 0 g (by omega) (by omega) ⟨g0, r0, hI⟩ (by omega)
      refine ⟨n9, v9, g9, r9, w1, ?_, w3, ?_⟩
      · unfold auV; rw [cif_t (by omega), cif_t (by omega)]; exact w2
      · unfold AuH; rw [cif_t (by omega), cif_t (by omega)]; exact w4
    · refine o_bipush (n := 28) rfl rfl ?_
      refine o_iret rfl rfl ?_
      first
        | (exfalso; omega; done)
        | (have hf := f2
           refine ⟨?_, rfl, ?_⟩
           · unfold auV; rw [cif_t (by omega), cif_t (by omega)]
           · unfold AuH; rw [cif_t (by omega), cif_t (by omega)]; exact hf)
        | (refine ⟨?_, rfl, ?_⟩
           · unfold auV; first | rw [cif_f (by omega)] | rw [cif_t (by omega), cif_f (by omega)]
           · unfold AuH; first | (rw [cif_f (by omega)]; exact ⟨Ag_refl g, fun _ _ => rfl⟩) | (rw [cif_t (by omega), cif_f (by omega)]; exact ⟨Ag_refl g, fun _ _ => rfl⟩))
  · refine o_bipush (n := 14) rfl rfl ?_
    refine o_iret rfl rfl ?_
    first
      | (exfalso; omega; done)
      | (have hf := f2
         refine ⟨?_, rfl, ?_⟩
         · unfold auV; rw [cif_t (by omega), cif_t (by omega)]
         · unfold AuH; rw [cif_t (by omega), cif_t (by omega)]; exact hf)
      | (refine ⟨?_, rfl, ?_⟩
         · unfold auV; first | rw [cif_f (by omega)] | rw [cif_t (by omega), cif_f (by omega)]
         · unfold AuH; first | (rw [cif_f (by omega)]; exact ⟨Ag_refl g, fun _ _ => rfl⟩) | (rw [cif_t (by omega), cif_f (by omega)]; exact ⟨Ag_refl g, fun _ _ => rfl⟩))
theorem p_search (b : Int) : Pr 66 173 [vI b] := pr_H (fun h => vI (seV h b)) (fun h => SeH h b) (fun c g h r _ _ hI => c7_search b hI) (fun c g0 g r0 r hI hS => c8_search b hI hS) (fun h h1 a => by show vI (seV h1 b) = vI (seV h b); unfold seV; rw [tno_c a, sef_c a]) (fun h h1 a => by
  show Ag (SeH h b) (SeH h1 b)
  unfold SeH
  rw [tno_c a, sef_c a]
  by_cases e : 1 ≤ b ∧ b ≤ 9
  · rw [cif_t e, cif_t e]
    by_cases e : tno h b ≤ 8192
    · rw [cif_t e, cif_t e]; exact Sft_c a
    · rw [cif_f e, cif_f e]; exact a
  · rw [cif_f e, cif_f e]; exact a)
theorem p_auto (b : Int) : Pr 67 174 [vI b] := pr_H (fun h => vI (auV h b)) (fun h => AuH h b) (fun c g h r _ _ hI => c7_auto b hI) (fun c g0 g r0 r hI hS => c8_auto b hI hS) (fun h h1 a => by show vI (auV h1 b) = vI (auV h b); unfold auV; rw [tno_c a, auc_c a]) (fun h h1 a => by
  show Ag (AuH h b) (AuH h1 b)
  unfold AuH
  rw [tno_c a]
  by_cases e : 1 ≤ b ∧ b ≤ 9
  · rw [cif_t e, cif_t e]
    by_cases e : tno h b ≤ 8192
    · rw [cif_t e, cif_t e]; exact auh_c a
    · rw [cif_f e, cif_f e]; exact a
  · rw [cif_f e, cif_f e]; exact a)
end AUTO
