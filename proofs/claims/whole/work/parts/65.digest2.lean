/-! digest, the reference's; digest. Written by wip/gen/gen65.py -/
theorem u8 {c : Int} {g r g1 : GI} {m : Nat} {as : List AV} {w : GI → Int} (h : C8 m as (fun g => vI (w g))) (hm : Mf (fun g => vI (w g))) (c0 : 0 ≤ c) (c1 : c ≤ 3072) (hI : Iv c g g r) (f : F8 g g1) : ∃ g2, Rt m (vR 8 0 :: as) g1 r (some (vI (w g))) g2 r ∧ F8 g g2 := by
  obtain ⟨v, g2, r2, hc, e, e1, f2⟩ := rt_ex (h c g1 r c0 c1 (Iv_F8 f hI))
  have e2 : vI (w g1) = vI (w g) := hm g g1 (F8_M f)
  have e3 : v = some (vI (w g1)) := e
  rw [e3, e2] at hc
  subst e1
  exact ⟨g2, hc, F8_tr f f2⟩
section DIGEST8
variable {c : Int} {g r g1 : GI}
theorem u8_info (hI : Iv c g g r) (f : F8 g g1) {i w : Int} (i0 : 0 ≤ i) (i1 : i < g 8 0 8) (w0 : 0 ≤ w) (w1 : w ≤ 5) : ∃ g2, Rt 145 [vR 8 0, vI i, vI w] g1 r (some (vI (inu g i w))) g2 r ∧ F8 g g2 := by
  obtain ⟨v, g2, r2, hc, e, e1, f2⟩ := rt_ex (c8_infoBy (Iv_F8 f hI) i0 (by rw [f 8 (by decide) (by decide) (by decide)]; exact i1) w0 w1)
  rw [show inu g1 i w = inu g i w from inu_m i w g g1 (F8_M f)] at e
  subst e; subst e1
  exact ⟨g2, hc, F8_tr f f2⟩
theorem u8_stages (hI : Iv c g g r) (f : F8 g g1) {k w : Int} (i0 : 0 ≤ k) (i1 : k < g 8 0 19) (w0 : 0 ≤ w) (w1 : w ≤ 3) : ∃ g2, Rt 163 [vR 8 0, vI k, vI w] g1 r (some (vI (sgu g k w))) g2 r ∧ F8 g g2 := by
  obtain ⟨v, g2, r2, hc, e, e1, f2⟩ := rt_ex (c8_stagesBy (Iv_F8 f hI) i0 (by rw [f 8 (by decide) (by decide) (by decide)]; exact i1) w0 w1)
  rw [show sgu g1 k w = sgu g k w from sgu_m k w g g1 (F8_M f)] at e
  subst e; subst e1
  exact ⟨g2, hc, F8_tr f f2⟩
theorem u8_value (hI : Iv c g g r) (f : F8 g g1) {i : Int} (i0 : 0 ≤ i) (i1 : i < g 8 0 8) : ∃ g2, Rt 155 [vR 8 0, vI i, vI 0, vI 0, vI 0] g1 r (some (vI (vlu g i 0 0 0))) g2 r ∧ F8 g g2 := by
  have nw3 := hI.2.2.2.2.2.1.2.2.1
  have e28 := f 28 (by decide) (by decide) (by decide)
  obtain ⟨v, g2, r2, hc, e, e1, f2⟩ := rt_ex (c8_valueBy (Iv_F8 f hI) (s := 0) (x := 0) (y := 0) i0 (by rw [f 8 (by decide) (by decide) (by decide)]; exact i1) (Or.inl rfl) (by omega) (by rw [e28]; omega) (by omega) (by rw [e28]; omega))
  rw [show vlu g1 i 0 0 0 = vlu g i 0 0 0 from vlu_m i 0 0 0 g g1 (F8_M f)] at e
  subst e; subst e1
  exact ⟨g2, hc, F8_tr f f2⟩
theorem u8_measure (hI : Iv c g g r) (f : F8 g g1) {d : Int} (d0 : 0 ≤ d) (d1 : d < 9) (hb : Br (g 27 0 d) (g 28 0 d) (E8 g d)) : ∃ g2, Rt 183 [vR 8 0, vI d] g1 r (some (vI (msu g d))) g2 r ∧ F8 g g2 := by
  obtain ⟨v, g2, r2, hc, e, e1, f2⟩ := rt_ex (c8_measureBy (Iv_F8 f hI) d0 d1 (by rw [f 27 (by decide) (by decide) (by decide), f 28 (by decide) (by decide) (by decide), E8_m (f 26 (by decide) (by decide) (by decide))]; exact hb))
  rw [show msu g1 d = msu g d from msu_m d g g1 (F8_M f)] at e
  subst e; subst e1
  exact ⟨g2, hc, F8_tr f f2⟩
theorem u8_entry (hI : Iv c g g r) (f : F8 g g1) {d s x y : Int} (hd : 0 ≤ d) (hd1 : d < 9) (h0 : 0 ≤ s) (h1 : s < 4) (h2 : 0 ≤ x) (h3 : x < 3) (h4 : 0 ≤ y) (h5 : y < 3) : Rt 150 [vR 8 0, vI d, vI s, vI x, vI y] g1 r (some (vI (en8 g d s x y))) g1 r := by
  have h := c8_entryBy (g := g1) hI.1.1 d s x y hd hd1 h0 h1 h2 h3 h4 h5
  rw [f 26 (by decide) (by decide) (by decide)] at h
  exact h
theorem u8_side (hI : Iv c g g r) (f : F8 g g1) {i s k : Int} (i0 : 0 ≤ i) (i1 : i < g 8 0 8) (hs : s = 0 ∨ s = 1) (k0 : -1 ≤ k) (k1 : k ≤ 5) : Rt 131 [vR 8 0, vI i, vI s, vI k] g1 r (some (vI (sdu g i s k))) g1 r := by
  have hru := hI.2.2.2.1
  have R8 := hru.2.1.1
  have hl := (ru_s hru i0 i1 hs).2.1.2
  have e23 := f 23 (by decide) (by decide) (by decide)
  have h := c8_sideBy (g := g1) hI.1.1 i s k i0 (by omega) (by omega) (by omega) k0 k1 (by rw [e23]; exact hl)
  rw [e23, f 22 (by decide) (by decide) (by decide)] at h
  exact h
theorem u8_letter (hI : Iv c g g r) (f : F8 g g1) {k : Int} (k0 : -1 ≤ k) (k1 : k ≤ 23) : Rt 181 [vR 8 0, vI k] g1 r (some (vI (ltu g k))) g1 r := by
  have h := c8_letterBy (g := g1) hI.1.1 k k0 k1
  rw [f 8 (by decide) (by decide) (by decide), f 25 (by decide) (by decide) (by decide)] at h
  exact h
theorem u8_frule (hI : Iv c g g r) (f : F8 g g1) : Rt 125 [vR 8 0] g1 r (some (vI (frS g))) g1 r := by
  have sg := hI.2.1
  have tx := hI.2.2.1
  unfold Isg at sg
  have t1 := tx.1
  have t2 := tx.2.1
  have t3 := tx.2.2.1
  have e8 := f 8 (by decide) (by decide) (by decide)
  have h := c8_faultOfRule (g := g1) hI.1.1 (by rw [e8]; omega) (by rw [e8]; omega) (by rw [e8]; omega) (by rw [e8]; omega)
  have e : fr g1 21 (g1 8 0 5) (g1 8 0 7).toNat 0 0 0 = frS g := frS_m g g1 (F8_M f)
  rw [e] at h
  exact h
theorem u8_fword (hI : Iv c g g r) (f : F8 g g1) : Rt 126 [vR 8 0] g1 r (some (vI (fwS g))) g1 r := by
  have sg := hI.2.1
  have tx := hI.2.2.1
  unfold Isg at sg
  have t1 := tx.1
  have t2 := tx.2.1
  have t3 := tx.2.2.1
  have e8 := f 8 (by decide) (by decide) (by decide)
  have h := c8_faultOfWord (g := g1) hI.1.1 (by rw [e8]; omega) (by rw [e8]; omega) (by rw [e8]; omega) (by rw [e8]; omega)
  have e : fi (g1 8 0 7).toNat 0 (nl g1 21 (g1 8 0 5)) (-1) = fwS g := fwS_m g g1 (F8_M f)
  rw [e] at h
  exact h
theorem u8_ends (hI : Iv c g g r) (f : F8 g g1) : Rt 168 [vR 8 0] g1 r (some (vI (edS g))) g1 r := by
  have R8 := hI.2.2.2.1.2.1.1
  have s1 := hI.2.2.2.2.2.2.1.2.1
  have s2 := hI.2.2.2.2.2.2.1.2.2.1
  have e8 := f 8 (by decide) (by decide) (by decide)
  have h := c8_endsNow (g := g1) hI.1.1 (by rw [e8]; omega) (by rw [e8]; omega) (by rw [e8]; omega) (by rw [e8]; omega)
  have e : bi (ctn (fun j => bt (am_and (st8 g1 (g1 8 0 19)) (g1 8 0 12)) j) (g1 8 0 8).toNat 0 0 = 0) = edS g := by
    show bi (scS g1 = 0) = bi (scS g = 0)
    rw [scS_m g g1 (F8_M f)]
  rw [e] at h
  exact h
theorem C8_sound : C8 154 [] (fun g => vI (soS g)) := by
  intro c g r c0 c1 hI
  obtain ⟨⟨hS, hR, h6, hP⟩, hsg, htx, hru, hwd, hnw, hst, hsh, hla⟩ := id hI
  have m1 := hsg.1
  have m2 := hsg.2.1
  have m3 := hsg.2.2
  show Ou 154 0 [vR 8 0] [] g r (fun x g2 r2 => x = some (vI (soS g)) ∧ r2 = r ∧ F8 g g2)
  refine o_aload_n (n := 1) rfl rfl rfl ?_
  refine o_bipush (n := 3) rfl rfl ?_
  refine o_invi (n := 6) rfl rfl rfl rfl rfl rfl rfl rfl rfl rfl (c8_isSound (m := g 8 0 5) hS (by omega) (by omega) (by omega) (by omega) rfl hnw.2 (Vr8_E 8)) ?_
  refine o_ifb_eq (n := 9) (t := 13) rfl rfl rfl (fun z6 => ?_) (fun z6 => ?_)
  · refine o_iconst (n := 14) rfl rfl ?_
    refine o_iret rfl rfl ?_
    refine ⟨?_, rfl, F8_refl g⟩
    unfold soS
    first | rfl | rw [bi_t (by assumption)] | rw [bi_f (by assumption)]
  · refine o_iconst (n := 10) rfl rfl ?_
    refine o_goto (t := 14) rfl rfl ?_
    refine o_iret rfl rfl ?_
    refine ⟨?_, rfl, F8_refl g⟩
    unfold soS
    first | rfl | rw [bi_t (by assumption)] | rw [bi_f (by assumption)]
theorem l8_rt1 (c0 : 0 ≤ c) (c1 : c ≤ 3072) (hI : Iv c g g r) {b i Z : Int} (i0 : 0 ≤ i) (i1 : i < g 8 0 8) : ∀ (m : Nat) (w a : Int) (g1 : GI), (0 ≤ w) → (w + m = 6) → (F8 g g1) → (∀ g1, F8 g g1 → Ou 189 36 [vR 8 0, vL b, vN, vI i, vL (fd (fun w => inu g i w) m w a), vN, vI 6] [] g1 r (fun x g2 r2 => x = some (vL (Z)) ∧ r2 = r ∧ F8 g g2)) → Ou 189 6 [vR 8 0, vL b, vN, vI i, vL a, vN, vI w] [] g1 r (fun x g2 r2 => x = some (vL (Z)) ∧ r2 = r ∧ F8 g g2) := by
  intro m
  induction m with
  | zero =>
    intro w a g1 i2 i3 f kQ
    have hw : w = 6 := by omega
    subst hw
    refine o_iload (n := 8) rfl rfl rfl ?_
    refine o_bipush (n := 10) rfl rfl ?_
    refine o_icmp_ge (n := 13) (t := 36) rfl rfl rfl (fun z10 => ?_) (fun z10 => (by exfalso; omega))
    exact kQ _ f
  | succ m ih =>
    intro w a g1 i2 i3 f kQ
    refine o_iload (n := 8) rfl rfl rfl ?_
    refine o_bipush (n := 10) rfl rfl ?_
    refine o_icmp_ge (n := 13) (t := 36) rfl rfl rfl (fun z10 => (by exfalso; omega)) (fun z10 => ?_)
    refine o_ldc2_w (n := 16) rfl rfl ?_
    refine o_lload (n := 18) rfl rfl rfl ?_
    refine o_lmul (n := 19) rfl rfl ?_
    refine o_aload_n (n := 20) rfl rfl rfl ?_
    refine o_iload_n (n := 21) rfl rfl rfl ?_
    refine o_iload (n := 23) rfl rfl rfl ?_
    obtain ⟨g2, hc2, f⟩ := u8_info hI f i0 i1 i2 (show w ≤ 5 by omega)
    refine o_invi (n := 26) rfl rfl rfl rfl rfl rfl rfl rfl rfl rfl (hc2) ?_
    refine o_i2l (n := 27) rfl rfl ?_
    refine o_ladd (n := 28) rfl rfl ?_
    refine o_lstore_4 (n := 30) rfl rfl rfl ?_
    refine o_iinc_6 (n := 33) rfl rfl rfl (by omega) ?_
    refine o_goto (t := 6) rfl rfl ?_
    exact ih (w + 1) _ _ (by omega) (by omega) f kQ
theorem c8_ruleTells (c0 : 0 ≤ c) (c1 : c ≤ 3072) (hI : Iv c g g r) {b i : Int} (i0 : 0 ≤ i) (i1 : i < g 8 0 8) (f : F8 g g1) : Ou 189 0 (am_ini 189 [vR 8 0, vL b, vI i]) [] g1 r (fun x g2 r2 => x = some (vL (rT g i b)) ∧ r2 = r ∧ F8 g g2) := by
  show Ou 189 0 [vR 8 0, vL b, vN, vI i, vN, vN, vN] [] g1 r _
  have ru1 := hI.2.2.2.1.2.1.1
  have st1 := hI.2.2.2.2.2.2.1.2.1
  have st2 := hI.2.2.2.2.2.2.1.2.2.1
  have sg := hI.2.1
  unfold Isg at sg
  have nw3 := hI.2.2.2.2.2.1.2.2.1
  refine o_lload_n (n := 1) rfl rfl rfl ?_
  refine o_lstore_4 (n := 3) rfl rfl rfl ?_
  refine o_iconst (n := 4) rfl rfl ?_
  refine o_istore_6 (n := 6) rfl rfl rfl ?_
  refine l8_rt1 c0 c1 hI i0 i1 6 0 b _ (by omega) (by omega) f (fun g1 f => ?_)
  refine o_ldc2_w (n := 39) rfl rfl ?_
  refine o_lload (n := 41) rfl rfl rfl ?_
  refine o_lmul (n := 42) rfl rfl ?_
  refine o_aload_n (n := 43) rfl rfl rfl ?_
  refine o_iload_n (n := 44) rfl rfl rfl ?_
  refine o_iconst (n := 45) rfl rfl ?_
  refine o_iconst (n := 46) rfl rfl ?_
  refine o_invi (n := 49) rfl rfl rfl rfl rfl rfl rfl rfl rfl rfl (u8_side hI f i0 i1 (by omega) (by omega) (by omega)) ?_
  refine o_i2l (n := 50) rfl rfl ?_
  refine o_ladd (n := 51) rfl rfl ?_
  refine o_lstore_4 (n := 53) rfl rfl rfl ?_
  refine o_ldc2_w (n := 56) rfl rfl ?_
  refine o_lload (n := 58) rfl rfl rfl ?_
  refine o_lmul (n := 59) rfl rfl ?_
  refine o_aload_n (n := 60) rfl rfl rfl ?_
  refine o_iload_n (n := 61) rfl rfl rfl ?_
  refine o_iconst (n := 62) rfl rfl ?_
  refine o_iconst (n := 63) rfl rfl ?_
  refine o_invi (n := 66) rfl rfl rfl rfl rfl rfl rfl rfl rfl rfl (u8_side hI f i0 i1 (by omega) (by omega) (by omega)) ?_
  refine o_i2l (n := 67) rfl rfl ?_
  refine o_ladd (n := 68) rfl rfl ?_
  refine o_lstore_4 (n := 70) rfl rfl rfl ?_
  refine o_ldc2_w (n := 73) rfl rfl ?_
  refine o_lload (n := 75) rfl rfl rfl ?_
  refine o_lmul (n := 76) rfl rfl ?_
  refine o_aload_n (n := 77) rfl rfl rfl ?_
  refine o_iload_n (n := 78) rfl rfl rfl ?_
  refine o_iconst (n := 79) rfl rfl ?_
  refine o_iconst (n := 80) rfl rfl ?_
  refine o_invi (n := 83) rfl rfl rfl rfl rfl rfl rfl rfl rfl rfl (u8_side hI f i0 i1 (by omega) (by omega) (by omega)) ?_
  refine o_i2l (n := 84) rfl rfl ?_
  refine o_ladd (n := 85) rfl rfl ?_
  refine o_lstore_4 (n := 87) rfl rfl rfl ?_
  refine o_ldc2_w (n := 90) rfl rfl ?_
  refine o_lload (n := 92) rfl rfl rfl ?_
  refine o_lmul (n := 93) rfl rfl ?_
  refine o_aload_n (n := 94) rfl rfl rfl ?_
  refine o_iload_n (n := 95) rfl rfl rfl ?_
  refine o_iconst (n := 96) rfl rfl ?_
  refine o_iconst (n := 97) rfl rfl ?_
  refine o_iconst (n := 98) rfl rfl ?_
  obtain ⟨g2, hc2, f⟩ := u8_value hI f i0 i1
  refine o_invi (n := 101) rfl rfl rfl rfl rfl rfl rfl rfl rfl rfl (hc2) ?_
  refine o_i2l (n := 102) rfl rfl ?_
  refine o_ladd (n := 103) rfl rfl ?_
  refine o_lret rfl ?_
  first | (exfalso; omega; done) | exact ⟨rfl, rfl, f⟩
theorem l8_kt1 (c0 : 0 ≤ c) (c1 : c ≤ 3072) (hI : Iv c g g r) {b k Z : Int} (i0 : 0 ≤ k) (i1 : k < g 8 0 19) : ∀ (m : Nat) (w a : Int) (g1 : GI), (0 ≤ w) → (w + m = 4) → (F8 g g1) → (∀ g1, F8 g g1 → Ou 190 35 [vR 8 0, vL b, vN, vI k, vL (fd (fun w => sgu g k w) m w a), vN, vI 4] [] g1 r (fun x g2 r2 => x = some (vL (Z)) ∧ r2 = r ∧ F8 g g2)) → Ou 190 6 [vR 8 0, vL b, vN, vI k, vL a, vN, vI w] [] g1 r (fun x g2 r2 => x = some (vL (Z)) ∧ r2 = r ∧ F8 g g2) := by
  intro m
  induction m with
  | zero =>
    intro w a g1 i2 i3 f kQ
    have hw : w = 4 := by omega
    subst hw
    refine o_iload (n := 8) rfl rfl rfl ?_
    refine o_iconst (n := 9) rfl rfl ?_
    refine o_icmp_ge (n := 12) (t := 35) rfl rfl rfl (fun z9 => ?_) (fun z9 => (by exfalso; omega))
    exact kQ _ f
  | succ m ih =>
    intro w a g1 i2 i3 f kQ
    refine o_iload (n := 8) rfl rfl rfl ?_
    refine o_iconst (n := 9) rfl rfl ?_
    refine o_icmp_ge (n := 12) (t := 35) rfl rfl rfl (fun z9 => (by exfalso; omega)) (fun z9 => ?_)
    refine o_ldc2_w (n := 15) rfl rfl ?_
    refine o_lload (n := 17) rfl rfl rfl ?_
    refine o_lmul (n := 18) rfl rfl ?_
    refine o_aload_n (n := 19) rfl rfl rfl ?_
    refine o_iload_n (n := 20) rfl rfl rfl ?_
    refine o_iload (n := 22) rfl rfl rfl ?_
    obtain ⟨g2, hc2, f⟩ := u8_stages hI f i0 i1 i2 (show w ≤ 3 by omega)
    refine o_invi (n := 25) rfl rfl rfl rfl rfl rfl rfl rfl rfl rfl (hc2) ?_
    refine o_i2l (n := 26) rfl rfl ?_
    refine o_ladd (n := 27) rfl rfl ?_
    refine o_lstore_4 (n := 29) rfl rfl rfl ?_
    refine o_iinc_6 (n := 32) rfl rfl rfl (by omega) ?_
    refine o_goto (t := 6) rfl rfl ?_
    exact ih (w + 1) _ _ (by omega) (by omega) f kQ
theorem c8_stageTells (c0 : 0 ≤ c) (c1 : c ≤ 3072) (hI : Iv c g g r) {b k : Int} (i0 : 0 ≤ k) (i1 : k < g 8 0 19) (f : F8 g g1) : Ou 190 0 (am_ini 190 [vR 8 0, vL b, vI k]) [] g1 r (fun x g2 r2 => x = some (vL (kT g k b)) ∧ r2 = r ∧ F8 g g2) := by
  show Ou 190 0 [vR 8 0, vL b, vN, vI k, vN, vN, vN] [] g1 r _
  have ru1 := hI.2.2.2.1.2.1.1
  have st1 := hI.2.2.2.2.2.2.1.2.1
  have st2 := hI.2.2.2.2.2.2.1.2.2.1
  have sg := hI.2.1
  unfold Isg at sg
  have nw3 := hI.2.2.2.2.2.1.2.2.1
  have hb := (hI.2.2.2.2.2.2.1.2.2.2 k i0 i1).2.2.1
  refine o_lload_n (n := 1) rfl rfl rfl ?_
  refine o_lstore_4 (n := 3) rfl rfl rfl ?_
  refine o_iconst (n := 4) rfl rfl ?_
  refine o_istore_6 (n := 6) rfl rfl rfl ?_
  refine l8_kt1 c0 c1 hI i0 i1 4 0 b _ (by omega) (by omega) f (fun g1 f => ?_)
  refine o_ldc2_w (n := 38) rfl rfl ?_
  refine o_lload (n := 40) rfl rfl rfl ?_
  refine o_lmul (n := 41) rfl rfl ?_
  refine o_aload_n (n := 42) rfl rfl rfl ?_
  refine o_iload_n (n := 43) rfl rfl rfl ?_
  obtain ⟨g2, hc2, f⟩ := u8_measure hI f i0 (show k < 9 by omega) hb
  refine o_invi (n := 46) rfl rfl rfl rfl rfl rfl rfl rfl rfl rfl (hc2) ?_
  refine o_i2l (n := 47) rfl rfl ?_
  refine o_ladd (n := 48) rfl rfl ?_
  refine o_lstore_4 (n := 50) rfl rfl rfl ?_
  refine o_ldc2_w (n := 53) rfl rfl ?_
  refine o_lload (n := 55) rfl rfl rfl ?_
  refine o_lmul (n := 56) rfl rfl ?_
  refine o_aload_n (n := 57) rfl rfl rfl ?_
  refine o_iload_n (n := 58) rfl rfl rfl ?_
  refine o_iconst (n := 59) rfl rfl ?_
  refine o_iconst (n := 60) rfl rfl ?_
  refine o_iconst (n := 61) rfl rfl ?_
  refine o_invi (n := 64) rfl rfl rfl rfl rfl rfl rfl rfl rfl rfl (u8_entry hI f i0 (by omega) (by omega) (by omega) (by omega) (by omega) (by omega) (by omega)) ?_
  refine o_i2l (n := 65) rfl rfl ?_
  refine o_ladd (n := 66) rfl rfl ?_
  refine o_lret rfl ?_
  first | (exfalso; omega; done) | exact ⟨rfl, rfl, f⟩
theorem l8_dl (c0 : 0 ≤ c) (c1 : c ≤ 3072) (hI : Iv c g g r) {t : AV} : ∀ (m : Nat) (k a : Int) (g1 : GI), (-1 ≤ k) → (k + m = 24) → (F8 g g1) → Ou 191 195 [vR 8 0, vL a, vN, vI k, t] [] g1 r (fun x g2 r2 => x = some (vL (fd (ltu g) m k a)) ∧ r2 = r ∧ F8 g g2) := by
  intro m
  induction m with
  | zero =>
    intro k a g1 i0 i1 f
    refine o_iload_n (n := 196) rfl rfl rfl ?_
    refine o_bipush (n := 198) rfl rfl ?_
    refine o_icmp_ge (n := 201) (t := 220) rfl rfl rfl (fun z198 => ?_) (fun z198 => (by exfalso; omega))
    refine o_lload_n (n := 221) rfl rfl rfl ?_
    refine o_lret rfl ?_
    first | (exfalso; omega; done) | exact ⟨rfl, rfl, f⟩
  | succ m ih =>
    intro k a g1 i0 i1 f
    refine o_iload_n (n := 196) rfl rfl rfl ?_
    refine o_bipush (n := 198) rfl rfl ?_
    refine o_icmp_ge (n := 201) (t := 220) rfl rfl rfl (fun z198 => (by exfalso; omega)) (fun z198 => ?_)
    refine o_ldc2_w (n := 204) rfl rfl ?_
    refine o_lload_n (n := 205) rfl rfl rfl ?_
    refine o_lmul (n := 206) rfl rfl ?_
    refine o_aload_n (n := 207) rfl rfl rfl ?_
    refine o_iload_n (n := 208) rfl rfl rfl ?_
    refine o_invi (n := 211) rfl rfl rfl rfl rfl rfl rfl rfl rfl rfl (u8_letter hI f i0 (by omega)) ?_
    refine o_i2l (n := 212) rfl rfl ?_
    refine o_ladd (n := 213) rfl rfl ?_
    refine o_lstore_1 (n := 214) rfl rfl rfl ?_
    refine o_iinc_3 (n := 217) rfl rfl rfl (by omega) ?_
    refine o_goto (t := 195) rfl rfl ?_
    exact ih (k + 1) _ _ (by omega) (by omega) f
theorem l8_dk (c0 : 0 ≤ c) (c1 : c ≤ 3072) (hI : Iv c g g r) {Z : Int} {t : AV} : ∀ (m : Nat) (k a : Int) (g1 : GI), (0 ≤ k) → (k + m = g 8 0 19) → (F8 g g1) → (∀ q g1, F8 g g1 → Ou 191 179 [vR 8 0, vL (fq (kT g) m k a), vN, vI q, t] [] g1 r (fun x g2 r2 => x = some (vL (Z)) ∧ r2 = r ∧ F8 g g2)) → Ou 191 158 [vR 8 0, vL a, vN, vI k, t] [] g1 r (fun x g2 r2 => x = some (vL (Z)) ∧ r2 = r ∧ F8 g g2) := by
  intro m
  induction m with
  | zero =>
    intro k a g1 i0 i1 f kQ
    have ru1 := hI.2.2.2.1.2.1.1
    have st1 := hI.2.2.2.2.2.2.1.2.1
    have st2 := hI.2.2.2.2.2.2.1.2.2.1
    have sg := hI.2.1
    unfold Isg at sg
    have nw3 := hI.2.2.2.2.2.1.2.2.1
    have e8 := f 8 (by decide) (by decide) (by decide)
    refine o_iload_n (n := 159) rfl rfl rfl ?_
    refine o_aload_n (n := 160) rfl rfl rfl ?_
    refine o_geti (n := 163) rfl rfl rfl rfl rfl ?_
    refine o_icmp_ge (n := 166) (t := 179) rfl rfl rfl (fun z163 => ?_) (fun z163 => (by exfalso; rw [e8] at z163; omega))
    exact kQ _ _ f
  | succ m ih =>
    intro k a g1 i0 i1 f kQ
    have ru1 := hI.2.2.2.1.2.1.1
    have st1 := hI.2.2.2.2.2.2.1.2.1
    have st2 := hI.2.2.2.2.2.2.1.2.2.1
    have sg := hI.2.1
    unfold Isg at sg
    have nw3 := hI.2.2.2.2.2.1.2.2.1
    have e8 := f 8 (by decide) (by decide) (by decide)
    refine o_iload_n (n := 159) rfl rfl rfl ?_
    refine o_aload_n (n := 160) rfl rfl rfl ?_
    refine o_geti (n := 163) rfl rfl rfl rfl rfl ?_
    refine o_icmp_ge (n := 166) (t := 179) rfl rfl rfl (fun z163 => (by exfalso; rw [e8] at z163; omega)) (fun z163 => ?_)
    refine o_aload_n (n := 167) rfl rfl rfl ?_
    refine o_lload_n (n := 168) rfl rfl rfl ?_
    refine o_iload_n (n := 169) rfl rfl rfl ?_
    obtain ⟨v2, g2, r2, hc2, e1, e2, f⟩ := rt_ex (c8_stageTells c0 c1 hI (b := a) i0 (show k < g 8 0 19 by omega) f)
    subst e1
    subst e2
    refine o_invi (n := 172) rfl rfl rfl rfl rfl rfl rfl rfl rfl rfl (hc2) ?_
    refine o_lstore_1 (n := 173) rfl rfl rfl ?_
    refine o_iinc_3 (n := 176) rfl rfl rfl (by omega) ?_
    refine o_goto (t := 158) rfl rfl ?_
    exact ih (k + 1) _ _ (by omega) (by omega) f kQ
theorem l8_ds1 (c0 : 0 ≤ c) (c1 : c ≤ 3072) (hI : Iv c g g r) {s Z : Int} (i0 : 0 ≤ s) (i1 : s < g 8 0 5) : ∀ (m : Nat) (v a : Int) (g1 : GI), (0 ≤ v) → (v + m = 4) → (F8 g g1) → (∀ g1, F8 g g1 → Ou 191 150 [vR 8 0, vL (fd (fun v => en8 g 8 s (v / 2) (v % 2)) m v a), vN, vI s, vI 4] [] g1 r (fun x g2 r2 => x = some (vL (Z)) ∧ r2 = r ∧ F8 g g2)) → Ou 191 115 [vR 8 0, vL a, vN, vI s, vI v] [] g1 r (fun x g2 r2 => x = some (vL (Z)) ∧ r2 = r ∧ F8 g g2) := by
  intro m
  induction m with
  | zero =>
    intro v a g1 i2 i3 f kQ
    have hw : v = 4 := by omega
    subst hw
    refine o_iload (n := 117) rfl rfl rfl ?_
    refine o_iconst (n := 118) rfl rfl ?_
    refine o_icmp_ge (n := 121) (t := 150) rfl rfl rfl (fun z118 => ?_) (fun z118 => (by exfalso; omega))
    exact kQ _ f
  | succ m ih =>
    intro v a g1 i2 i3 f kQ
    have sg := hI.2.1
    unfold Isg at sg
    refine o_iload (n := 117) rfl rfl rfl ?_
    refine o_iconst (n := 118) rfl rfl ?_
    refine o_icmp_ge (n := 121) (t := 150) rfl rfl rfl (fun z118 => (by exfalso; omega)) (fun z118 => ?_)
    refine o_ldc2_w (n := 124) rfl rfl ?_
    refine o_lload_n (n := 125) rfl rfl rfl ?_
    refine o_lmul (n := 126) rfl rfl ?_
    refine o_aload_n (n := 127) rfl rfl rfl ?_
    refine o_bipush (n := 129) rfl rfl ?_
    refine o_iload_n (n := 130) rfl rfl rfl ?_
    refine o_iload (n := 132) rfl rfl rfl ?_
    refine o_iconst (n := 133) rfl rfl ?_
    refine o_idiv (n := 134) rfl rfl (by omega) ?_
    refine o_iload (n := 136) rfl rfl rfl ?_
    refine o_iconst (n := 137) rfl rfl ?_
    refine o_irem (n := 138) rfl rfl (by omega) ?_
    refine o_invi (n := 141) rfl rfl rfl rfl rfl rfl rfl rfl rfl rfl (u8_entry hI f (by omega) (by omega) (by omega) (by omega) (by omega) (by omega) (by omega) (by omega)) ?_
    refine o_i2l (n := 142) rfl rfl ?_
    refine o_ladd (n := 143) rfl rfl ?_
    refine o_lstore_1 (n := 144) rfl rfl rfl ?_
    refine o_iinc_4 (n := 147) rfl rfl rfl (by omega) ?_
    refine o_goto (t := 115) rfl rfl ?_
    exact ih (v + 1) _ _ (by omega) (by omega) f kQ
theorem sT_eq (g : GI) (s a : Int) : fd (fun v => en8 g 8 s (v / 2) (v % 2)) 4 0 a = sT g s a := by
  show mx (mx (mx (mx a (en8 g 8 s (0 / 2) (0 % 2))) (en8 g 8 s ((0 + 1) / 2) ((0 + 1) % 2))) (en8 g 8 s ((0 + 1 + 1) / 2) ((0 + 1 + 1) % 2))) (en8 g 8 s ((0 + 1 + 1 + 1) / 2) ((0 + 1 + 1 + 1) % 2)) = mx (mx (mx (mx a (en8 g 8 s 0 0)) (en8 g 8 s 0 (0 + 1))) (en8 g 8 s (0 + 1) 0)) (en8 g 8 s (0 + 1) (0 + 1))
  rfl
theorem l8_ds (c0 : 0 ≤ c) (c1 : c ≤ 3072) (hI : Iv c g g r) {Z : Int} : ∀ (m : Nat) (s a : Int) (t : AV) (g1 : GI), (0 ≤ s) → (s + m = g 8 0 5) → (F8 g g1) → (∀ q t g1, F8 g g1 → Ou 191 156 [vR 8 0, vL (fq (sT g) m s a), vN, vI q, t] [] g1 r (fun x g2 r2 => x = some (vL (Z)) ∧ r2 = r ∧ F8 g g2)) → Ou 191 104 [vR 8 0, vL a, vN, vI s, t] [] g1 r (fun x g2 r2 => x = some (vL (Z)) ∧ r2 = r ∧ F8 g g2) := by
  intro m
  induction m with
  | zero =>
    intro s a t g1 i0 i1 f kQ
    have ru1 := hI.2.2.2.1.2.1.1
    have st1 := hI.2.2.2.2.2.2.1.2.1
    have st2 := hI.2.2.2.2.2.2.1.2.2.1
    have sg := hI.2.1
    unfold Isg at sg
    have nw3 := hI.2.2.2.2.2.1.2.2.1
    have e8 := f 8 (by decide) (by decide) (by decide)
    refine o_iload_n (n := 105) rfl rfl rfl ?_
    refine o_aload_n (n := 106) rfl rfl rfl ?_
    refine o_geti (n := 109) rfl rfl rfl rfl rfl ?_
    refine o_icmp_ge (n := 112) (t := 156) rfl rfl rfl (fun z109 => ?_) (fun z109 => (by exfalso; rw [e8] at z109; omega))
    exact kQ _ _ _ f
  | succ m ih =>
    intro s a t g1 i0 i1 f kQ
    have ru1 := hI.2.2.2.1.2.1.1
    have st1 := hI.2.2.2.2.2.2.1.2.1
    have st2 := hI.2.2.2.2.2.2.1.2.2.1
    have sg := hI.2.1
    unfold Isg at sg
    have nw3 := hI.2.2.2.2.2.1.2.2.1
    have e8 := f 8 (by decide) (by decide) (by decide)
    refine o_iload_n (n := 105) rfl rfl rfl ?_
    refine o_aload_n (n := 106) rfl rfl rfl ?_
    refine o_geti (n := 109) rfl rfl rfl rfl rfl ?_
    refine o_icmp_ge (n := 112) (t := 156) rfl rfl rfl (fun z109 => (by exfalso; rw [e8] at z109; omega)) (fun z109 => ?_)
    refine o_iconst (n := 113) rfl rfl ?_
    refine o_istore_4 (n := 115) rfl rfl rfl ?_
    refine l8_ds1 c0 c1 hI i0 (show s < g 8 0 5 by omega) 4 0 a _ (by omega) (by omega) f (fun g1 f => ?_)
    rw [sT_eq]
    refine o_iinc_3 (n := 153) rfl rfl rfl (by omega) ?_
    refine o_goto (t := 104) rfl rfl ?_
    exact ih (s + 1) _ _ _ (by omega) (by omega) f kQ
theorem l8_dr (c0 : 0 ≤ c) (c1 : c ≤ 3072) (hI : Iv c g g r) {Z : Int} {t : AV} : ∀ (m : Nat) (k a : Int) (g1 : GI), (0 ≤ k) → (k + m = g 8 0 8) → (F8 g g1) → (∀ q g1, F8 g g1 → Ou 191 102 [vR 8 0, vL (fq (rT g) m k a), vN, vI q, t] [] g1 r (fun x g2 r2 => x = some (vL (Z)) ∧ r2 = r ∧ F8 g g2)) → Ou 191 81 [vR 8 0, vL a, vN, vI k, t] [] g1 r (fun x g2 r2 => x = some (vL (Z)) ∧ r2 = r ∧ F8 g g2) := by
  intro m
  induction m with
  | zero =>
    intro k a g1 i0 i1 f kQ
    have ru1 := hI.2.2.2.1.2.1.1
    have st1 := hI.2.2.2.2.2.2.1.2.1
    have st2 := hI.2.2.2.2.2.2.1.2.2.1
    have sg := hI.2.1
    unfold Isg at sg
    have nw3 := hI.2.2.2.2.2.1.2.2.1
    have e8 := f 8 (by decide) (by decide) (by decide)
    refine o_iload_n (n := 82) rfl rfl rfl ?_
    refine o_aload_n (n := 83) rfl rfl rfl ?_
    refine o_geti (n := 86) rfl rfl rfl rfl rfl ?_
    refine o_icmp_ge (n := 89) (t := 102) rfl rfl rfl (fun z86 => ?_) (fun z86 => (by exfalso; rw [e8] at z86; omega))
    exact kQ _ _ f
  | succ m ih =>
    intro k a g1 i0 i1 f kQ
    have ru1 := hI.2.2.2.1.2.1.1
    have st1 := hI.2.2.2.2.2.2.1.2.1
    have st2 := hI.2.2.2.2.2.2.1.2.2.1
    have sg := hI.2.1
    unfold Isg at sg
    have nw3 := hI.2.2.2.2.2.1.2.2.1
    have e8 := f 8 (by decide) (by decide) (by decide)
    refine o_iload_n (n := 82) rfl rfl rfl ?_
    refine o_aload_n (n := 83) rfl rfl rfl ?_
    refine o_geti (n := 86) rfl rfl rfl rfl rfl ?_
    refine o_icmp_ge (n := 89) (t := 102) rfl rfl rfl (fun z86 => (by exfalso; rw [e8] at z86; omega)) (fun z86 => ?_)
    refine o_aload_n (n := 90) rfl rfl rfl ?_
    refine o_lload_n (n := 91) rfl rfl rfl ?_
    refine o_iload_n (n := 92) rfl rfl rfl ?_
    obtain ⟨v2, g2, r2, hc2, e1, e2, f⟩ := rt_ex (c8_ruleTells c0 c1 hI (b := a) i0 (show k < g 8 0 8 by omega) f)
    subst e1
    subst e2
    refine o_invi (n := 95) rfl rfl rfl rfl rfl rfl rfl rfl rfl rfl (hc2) ?_
    refine o_lstore_1 (n := 96) rfl rfl rfl ?_
    refine o_iinc_3 (n := 99) rfl rfl rfl (by omega) ?_
    refine o_goto (t := 81) rfl rfl ?_
    exact ih (k + 1) _ _ (by omega) (by omega) f kQ
theorem l8_dc (c0 : 0 ≤ c) (c1 : c ≤ 3072) (hI : Iv c g g r) {Z : Int} {t : AV} : ∀ (m : Nat) (w a : Int) (g1 : GI), (0 ≤ w) → (w + m = 8) → (F8 g g1) → (∀ g1, F8 g g1 → Ou 191 31 [vR 8 0, vL (fd (cnS g) m w a), vN, vI 8, t] [] g1 r (fun x g2 r2 => x = some (vL (Z)) ∧ r2 = r ∧ F8 g g2)) → Ou 191 6 [vR 8 0, vL a, vN, vI w, t] [] g1 r (fun x g2 r2 => x = some (vL (Z)) ∧ r2 = r ∧ F8 g g2) := by
  intro m
  induction m with
  | zero =>
    intro w a g1 i2 i3 f kQ
    have hw : w = 8 := by omega
    subst hw
    refine o_iload_n (n := 7) rfl rfl rfl ?_
    refine o_bipush (n := 9) rfl rfl ?_
    refine o_icmp_ge (n := 12) (t := 31) rfl rfl rfl (fun z9 => ?_) (fun z9 => (by exfalso; omega))
    exact kQ _ f
  | succ m ih =>
    intro w a g1 i2 i3 f kQ
    refine o_iload_n (n := 7) rfl rfl rfl ?_
    refine o_bipush (n := 9) rfl rfl ?_
    refine o_icmp_ge (n := 12) (t := 31) rfl rfl rfl (fun z9 => (by exfalso; omega)) (fun z9 => ?_)
    refine o_ldc2_w (n := 15) rfl rfl ?_
    refine o_lload_n (n := 16) rfl rfl rfl ?_
    refine o_lmul (n := 17) rfl rfl ?_
    refine o_aload_n (n := 18) rfl rfl rfl ?_
    refine o_iload_n (n := 19) rfl rfl rfl ?_
    obtain ⟨g2, hc2, f⟩ := u8 (C8_count w) (cnS_m w) c0 c1 hI f
    refine o_invi (n := 22) rfl rfl rfl rfl rfl rfl rfl rfl rfl rfl (hc2) ?_
    refine o_i2l (n := 23) rfl rfl ?_
    refine o_ladd (n := 24) rfl rfl ?_
    refine o_lstore_1 (n := 25) rfl rfl rfl ?_
    refine o_iinc_3 (n := 28) rfl rfl rfl (by omega) ?_
    refine o_goto (t := 6) rfl rfl ?_
    exact ih (w + 1) _ _ (by omega) (by omega) f kQ
theorem C8_digest : C8 191 [] (fun g => vL (dgS g)) := by
  intro c g r c0 c1 hI
  show Ou 191 0 [vR 8 0, vN, vN, vN, vN] [] g r (fun x g2 r2 => x = some (vL (dgS g)) ∧ r2 = r ∧ F8 g g2)
  have ru1 := hI.2.2.2.1.2.1.1
  have st1 := hI.2.2.2.2.2.2.1.2.1
  have st2 := hI.2.2.2.2.2.2.1.2.2.1
  have sg := hI.2.1
  unfold Isg at sg
  have nw3 := hI.2.2.2.2.2.1.2.2.1
  refine o_ldc2_w (n := 3) rfl rfl ?_
  refine o_lstore_1 (n := 4) rfl rfl rfl ?_
  refine o_iconst (n := 5) rfl rfl ?_
  refine o_istore_3 (n := 6) rfl rfl rfl ?_
  refine l8_dc c0 c1 hI 8 0 17 _ (by omega) (by omega) (F8_refl g) (fun g1 f => ?_)
  refine o_ldc2_w (n := 34) rfl rfl ?_
  refine o_lload_n (n := 35) rfl rfl rfl ?_
  refine o_lmul (n := 36) rfl rfl ?_
  refine o_aload_n (n := 37) rfl rfl rfl ?_
  refine o_invi (n := 40) rfl rfl rfl rfl rfl rfl rfl rfl rfl rfl (u8_frule hI f) ?_
  refine o_i2l (n := 41) rfl rfl ?_
  refine o_ladd (n := 42) rfl rfl ?_
  refine o_lstore_1 (n := 43) rfl rfl rfl ?_
  refine o_ldc2_w (n := 46) rfl rfl ?_
  refine o_lload_n (n := 47) rfl rfl rfl ?_
  refine o_lmul (n := 48) rfl rfl ?_
  refine o_aload_n (n := 49) rfl rfl rfl ?_
  refine o_invi (n := 52) rfl rfl rfl rfl rfl rfl rfl rfl rfl rfl (u8_fword hI f) ?_
  refine o_i2l (n := 53) rfl rfl ?_
  refine o_ladd (n := 54) rfl rfl ?_
  refine o_lstore_1 (n := 55) rfl rfl rfl ?_
  refine o_ldc2_w (n := 58) rfl rfl ?_
  refine o_lload_n (n := 59) rfl rfl rfl ?_
  refine o_lmul (n := 60) rfl rfl ?_
  refine o_aload_n (n := 61) rfl rfl rfl ?_
  obtain ⟨g2, hc2, f⟩ := u8 C8_sound soS_m c0 c1 hI f
  refine o_invi (n := 64) rfl rfl rfl rfl rfl rfl rfl rfl rfl rfl (hc2) ?_
  refine o_i2l (n := 65) rfl rfl ?_
  refine o_ladd (n := 66) rfl rfl ?_
  refine o_lstore_1 (n := 67) rfl rfl rfl ?_
  refine o_ldc2_w (n := 70) rfl rfl ?_
  refine o_lload_n (n := 71) rfl rfl rfl ?_
  refine o_lmul (n := 72) rfl rfl ?_
  refine o_aload_n (n := 73) rfl rfl rfl ?_
  refine o_invi (n := 76) rfl rfl rfl rfl rfl rfl rfl rfl rfl rfl (u8_ends hI f) ?_
  refine o_i2l (n := 77) rfl rfl ?_
  refine o_ladd (n := 78) rfl rfl ?_
  refine o_lstore_1 (n := 79) rfl rfl rfl ?_
  refine o_iconst (n := 80) rfl rfl ?_
  refine o_istore_3 (n := 81) rfl rfl rfl ?_
  refine l8_dr c0 c1 hI (g 8 0 8).toNat 0 _ _ (by omega) (by omega) f (fun q g1 f => ?_)
  refine o_iconst (n := 103) rfl rfl ?_
  refine o_istore_3 (n := 104) rfl rfl rfl ?_
  refine l8_ds c0 c1 hI (g 8 0 5).toNat 0 _ _ _ (by omega) (by omega) f (fun q t g1 f => ?_)
  refine o_iconst (n := 157) rfl rfl ?_
  refine o_istore_3 (n := 158) rfl rfl rfl ?_
  refine l8_dk c0 c1 hI (g 8 0 19).toNat 0 _ _ (by omega) (by omega) f (fun q g1 f => ?_)
  refine o_ldc2_w (n := 182) rfl rfl ?_
  refine o_lload_n (n := 183) rfl rfl rfl ?_
  refine o_lmul (n := 184) rfl rfl ?_
  refine o_aload_n (n := 185) rfl rfl rfl ?_
  refine o_bipush (n := 187) rfl rfl ?_
  obtain ⟨g2, hc2, f⟩ := u8_measure hI f (d := 8) (by omega) (by omega) hI.2.2.2.2.2.1.2
  refine o_invi (n := 190) rfl rfl rfl rfl rfl rfl rfl rfl rfl rfl (hc2) ?_
  refine o_i2l (n := 191) rfl rfl ?_
  refine o_ladd (n := 192) rfl rfl ?_
  refine o_lstore_1 (n := 193) rfl rfl rfl ?_
  refine o_iconst (n := 194) rfl rfl ?_
  refine o_istore_3 (n := 195) rfl rfl rfl ?_
  exact l8_dl c0 c1 hI 25 (-1) _ _ (by omega) (by omega) f
theorem fd_congr {f f' : Int → Int} (h : ∀ k, f k = f' k) : f = f' := funext h
theorem dgS_m : Mf (fun g => vL (dgS g)) := fun g h hm => by
  have h8 := hm 8 (Or.inl rfl) (by decide) (by decide) (by decide)
  have h26 := hm 26 (Or.inr (by decide)) (by decide) (by decide) (by decide)
  have e1 : cnS h = cnS g := funext (fun w => by have := cnS_m w g h hm; injection this)
  have e2 : ltu h = ltu g := by
    funext k
    unfold ltu
    rw [h8, hm 25 (Or.inr (by decide)) (by decide) (by decide) (by decide)]
  have e3 : ∀ i, inu h i = inu g i := fun i => funext (fun w => inu_m i w g h hm)
  have e4 : ∀ k, sgu h k = sgu g k := fun k => funext (fun w => sgu_m k w g h hm)
  have e5 : ∀ d s x y, en8 h d s x y = en8 g d s x y := fun d s x y => by unfold en8; rw [h26]
  have e6 : ∀ i s k, sdu h i s k = sdu g i s k := fun i s k => by
    unfold sdu
    rw [hm 22 (Or.inr (by decide)) (by decide) (by decide) (by decide), hm 23 (Or.inr (by decide)) (by decide) (by decide) (by decide)]
  have r1 : rT h = rT g := by
    funext i a
    unfold rT
    rw [e3, e6, e6, e6, show vlu h i 0 0 0 = vlu g i 0 0 0 from vlu_m i 0 0 0 g h hm]
  have r2 : sT h = sT g := by
    funext s a
    unfold sT
    have : (fun (x a : Int) => fd (fun y => en8 h 8 s x y) 2 0 a) = (fun (x a : Int) => fd (fun y => en8 g 8 s x y) 2 0 a) := by
      funext x a
      rw [show (fun y => en8 h 8 s x y) = (fun y => en8 g 8 s x y) from funext (fun y => e5 8 s x y)]
    rw [this]
  have r3 : kT h = kT g := by
    funext k a
    unfold kT
    rw [e4, e5, show msu h k = msu g k from msu_m k g h hm]
  show vL (dgS h) = vL (dgS g)
  unfold dgS dg3 dg2 dg1 dg0
  have s1 : soS h = soS g := by have := soS_m g h hm; injection this
  have s2 : edS h = edS g := by have := edS_m g h hm; injection this
  rw [e1, e2, r1, r2, r3, h8, frS_m g h hm, fwS_m g h hm, s1, s2, show msu h 8 = msu g 8 from msu_m 8 g h hm]
theorem p_digest : Pr 80 191 [] := pr_of C7_digest C8_digest dgS_m
end DIGEST8
