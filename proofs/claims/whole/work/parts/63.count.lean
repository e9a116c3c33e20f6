/-! count. Written by wip/gen/gen63.py -/
theorem b8_ok : ∀ b0 b1 b2 b3 b4 b5 b6 b7 : Bool, 1 * b0.toNat + 2 * b1.toNat + 4 * b2.toNat + 8 * b3.toNat + 16 * b4.toNat + 32 * b5.toNat + 64 * b6.toNat + 128 * b7.toNat < 256 ∧ bcn (1 * b0.toNat + 2 * b1.toNat + 4 * b2.toNat + 8 * b3.toNat + 16 * b4.toNat + 32 * b5.toNat + 64 * b6.toNat + 128 * b7.toNat) = ((b0.toNat + b1.toNat + b2.toNat + b3.toNat + b4.toNat + b5.toNat + b6.toNat + b7.toNat : Nat) : Int) ∧ ∀ i : Nat, i < 32 → tb ((1 * b0.toNat + 2 * b1.toNat + 4 * b2.toNat + 8 * b3.toNat + 16 * b4.toNat + 32 * b5.toNat + 64 * b6.toNat + 128 * b7.toNat : Nat) : Int) i = (if i = 0 then b0 else if i = 1 then b1 else if i = 2 then b2 else if i = 3 then b3 else if i = 4 then b4 else if i = 5 then b5 else if i = 6 then b6 else if i = 7 then b7 else false) := by decide +kernel
theorem b8_of {x : Int} (hx : inI x) (hz : ∀ k, 8 ≤ k → k < 32 → tb x k = false) : ∃ n : Nat, n < 256 ∧ x = (n : Int) ∧ bcn n = (((tb x 0).toNat + (tb x 1).toNat + (tb x 2).toNat + (tb x 3).toNat + (tb x 4).toNat + (tb x 5).toNat + (tb x 6).toNat + (tb x 7).toNat : Nat) : Int) := by
  obtain ⟨h1, h2, h3⟩ := b8_ok (tb x 0) (tb x 1) (tb x 2) (tb x 3) (tb x 4) (tb x 5) (tb x 6) (tb x 7)
  refine ⟨_, h1, tb_ext hx ⟨by omega, by omega⟩ (fun i hi => ?_), h2⟩
  rw [h3 i hi]
  by_cases e : i < 8
  · rcases (show i = 0 ∨ i = 1 ∨ i = 2 ∨ i = 3 ∨ i = 4 ∨ i = 5 ∨ i = 6 ∨ i = 7 by omega) with e | e | e | e | e | e | e | e <;> subst e <;> rfl
  · rw [if_neg (by omega), if_neg (by omega), if_neg (by omega), if_neg (by omega), if_neg (by omega), if_neg (by omega), if_neg (by omega), if_neg (by omega)]
    exact hz i (by omega) hi
theorem ctn_app {P : Int → Prop} {m : Nat} : ∀ {n : Nat} {k x : Int}, ctn P (n + m) k x = ctn P m (k + n) (ctn P n k x)
  | 0, k, x => by
    rw [Nat.zero_add, show k + ((0 : Nat) : Int) = k by omega]; rfl
  | n + 1, k, x => by
    rw [show n + 1 + m = n + m + 1 by omega, ctn_s, ctn_s, ctn_app, show k + 1 + (n : Int) = k + ((n + 1 : Nat) : Int) by omega]
theorem ctn_none {P : Int → Prop} : ∀ {n : Nat} {k x : Int}, (∀ j, k ≤ j → j < k + n → ¬ P j) → ctn P n k x = x
  | 0, _, _, _ => rfl
  | n + 1, k, x, h => by
    rw [ctn_s, bi_f (h k (by omega) (by omega)), Int.add_zero]
    exact ctn_none (fun j a b => h j (by omega) (by omega))
theorem bi_tb {x k : Int} (k0 : 0 ≤ k) (k1 : k < 8) : bi (bt x k) = (((tb x k.toNat).toNat : Nat) : Int) := by
  cases e : tb x k.toNat with
  | false => rw [bi_f (fun z => by have := (bt_tb k0 k1).mp z; rw [e] at this; cases this)]; rfl
  | true => rw [bi_t ((bt_tb k0 k1).mpr e)]; rfl
theorem ctn_8 {x : Int} : ctn (fun j => bt x j) 8 0 0 = (((tb x 0).toNat + (tb x 1).toNat + (tb x 2).toNat + (tb x 3).toNat + (tb x 4).toNat + (tb x 5).toNat + (tb x 6).toNat + (tb x 7).toNat : Nat) : Int) := by
  have e : ∀ k : Nat, k < 8 → bi (bt x (k : Int)) = (((tb x k).toNat : Nat) : Int) := fun k hk => by
    rw [bi_tb (by omega) (by omega)]; rfl
  have e0 := e 0 (by decide)
  have e1 := e 1 (by decide)
  have e2 := e 2 (by decide)
  have e3 := e 3 (by decide)
  have e4 := e 4 (by decide)
  have e5 := e 5 (by decide)
  have e6 := e 6 (by decide)
  have e7 := e 7 (by decide)
  show 0 + bi (bt x 0) + bi (bt x (0 + 1)) + bi (bt x (0 + 1 + 1)) + bi (bt x (0 + 1 + 1 + 1)) + bi (bt x (0 + 1 + 1 + 1 + 1)) + bi (bt x (0 + 1 + 1 + 1 + 1 + 1)) + bi (bt x (0 + 1 + 1 + 1 + 1 + 1 + 1)) + bi (bt x (0 + 1 + 1 + 1 + 1 + 1 + 1 + 1)) = _
  have f0 : bi (bt x 0) = (((tb x 0).toNat : Nat) : Int) := e0
  have f1 : bi (bt x (0 + 1)) = (((tb x 1).toNat : Nat) : Int) := e1
  have f2 : bi (bt x (0 + 1 + 1)) = (((tb x 2).toNat : Nat) : Int) := e2
  have f3 : bi (bt x (0 + 1 + 1 + 1)) = (((tb x 3).toNat : Nat) : Int) := e3
  have f4 : bi (bt x (0 + 1 + 1 + 1 + 1)) = (((tb x 4).toNat : Nat) : Int) := e4
  have f5 : bi (bt x (0 + 1 + 1 + 1 + 1 + 1)) = (((tb x 5).toNat : Nat) : Int) := e5
  have f6 : bi (bt x (0 + 1 + 1 + 1 + 1 + 1 + 1)) = (((tb x 6).toNat : Nat) : Int) := e6
  have f7 : bi (bt x (0 + 1 + 1 + 1 + 1 + 1 + 1 + 1)) = (((tb x 7).toNat : Nat) : Int) := e7
  rw [f0, f1, f2, f3, f4, f5, f6, f7]
  omega
theorem tb_ab : ∀ R : Nat, R ≤ 8 → ∀ k : Nat, k < 32 → tb (ab (R : Int)) k = decide (k < R) := by decide +kernel
theorem st8_sub {h : GI} {k : Nat} : ∀ n : Nat, tb (st8 h (n : Int)) k = true → tb (ab (h 8 0 8)) k = true
  | 0, e => e
  | n + 1, e => by
    rw [st8_s, tb_and, Bool.and_eq_true] at e
    exact st8_sub n e.1
noncomputable def lfS (g : GI) : Int := ctn (fun j => bt (st8 g (g 8 0 19)) j) (g 8 0 8).toNat 0 0
theorem lf_bc {h : GI} (R0 : 0 ≤ h 8 0 8) (R1 : h 8 0 8 ≤ 8) (s0 : 0 ≤ h 8 0 19) : ∃ n : Nat, n < 256 ∧ st8 h (h 8 0 19) = (n : Int) ∧ bcn n = lfS h := by
  have hin : inI (st8 h (h 8 0 19)) := lb_inI (ab_inI R0 R1)
  have hsub : ∀ k, k < 32 → tb (st8 h (h 8 0 19)) k = true → (k : Int) < h 8 0 8 := fun k hk e => by
    have := st8_sub (h := h) (k := k) (h 8 0 19).toNat (by rw [show (((h 8 0 19).toNat : Nat) : Int) = h 8 0 19 by omega]; exact e)
    rw [show h 8 0 8 = (((h 8 0 8).toNat : Nat) : Int) by omega, tb_ab _ (by omega) k hk] at this
    have := of_decide_eq_true this
    omega
  obtain ⟨n, n1, n2, n3⟩ := b8_of hin (fun k k8 k32 => by
    cases e : tb (st8 h (h 8 0 19)) k with
    | false => rfl
    | true => have := hsub k k32 e; omega)
  refine ⟨n, n1, n2, ?_⟩
  rw [n3, ← ctn_8]
  unfold lfS
  have e := ctn_app (P := fun j => bt (st8 h (h 8 0 19)) j) (n := (h 8 0 8).toNat) (m := 8 - (h 8 0 8).toNat) (k := 0) (x := 0)
  rw [show (h 8 0 8).toNat + (8 - (h 8 0 8).toNat) = 8 by omega] at e
  rw [e]
  refine ctn_none (fun j j0 j1 z => ?_)
  have := hsub j.toNat (by omega) ((bt_tb (by omega) (by omega)).mp z)
  omega
noncomputable def wkS (g : GI) : Int := ctn (fun i => gr8 g i ≠ 0) (g 8 0 8).toNat 0 0
noncomputable def cnS (g : GI) (w : Int) : Int := cif (w = 0) (g 8 0 8) (cif (w = 1) (lfS g) (cif (w = 2) (g 8 0 19) (cif (w = 3) (scS g) (cif (w = 4) (g 8 0 14) (cif (w = 5) (g 8 0 15) (cif (w = 6) (g 8 0 7) (cif (w = 7) (wkS g) (cif (w = 8) (g 8 0 4) (-2)))))))))
theorem cnS_m (w : Int) : Mf (fun g => vI (cnS g w)) := fun g h hm => by
  have h8 := hm 8 (Or.inl rfl) (by decide) (by decide) (by decide)
  have h29 := hm 29 (Or.inr (by decide)) (by decide) (by decide) (by decide)
  have e1 : lfS h = lfS g := by unfold lfS; rw [st8_m h8 h29, h8]
  have e2 : wkS h = wkS g := by
    unfold wkS
    rw [h8]
    exact ctn_congr (fun j _ _ => by rw [show gr8 h j = gr8 g j from gr8_m j g h hm])
  show vI (cnS h w) = vI (cnS g w)
  unfold cnS
  rw [e1, e2, scS_m g h hm, h8]
theorem C7_count (w : Int) : C7 79 [vI w] (fun g => vI (cnS g w)) := by
  intro c g r hc0 hc1 hI
  have hI' := hI
  obtain ⟨⟨hS, hR, h6, hP⟩, hsg, htx, hru, hwd, hnw, hst, hsh, hla⟩ := hI'
  show Ou 79 0 [vR 7 0, vI w] [] g r (fun xx g1 r1 => xx = some (vI (cnS g w)) ∧ FJ g r g1 r1)
  obtain ⟨sg1, sg2, sg3⟩ := hI.2.1
  obtain ⟨tx1, tx2, tx3, tx4⟩ := hI.2.2.1
  have ru0 : g 7 0 10 = g 8 0 8 := hI.2.2.2.1.1.1
  have ru1 := hI.2.2.2.1.2.1.1
  have wd0 : g 1 0 1 = g 8 0 14 := hI.2.2.2.2.1.1.1
  have wd1 := hI.2.2.2.2.1.2.1.1
  have wd2 := hI.2.2.2.2.1.2.2
  have nw0 : g 0 0 0 = g 27 0 8 := hI.2.2.2.2.2.1.1.1
  have nw1 : g 0 0 1 = g 28 0 8 := hI.2.2.2.2.2.1.1.2.1
  have nw2 := hI.2.2.2.2.2.1.2.1
  have nw3 := hI.2.2.2.2.2.1.2.2.1
  have st0 := hI.2.2.2.2.2.2.1.1
  have st1 := hI.2.2.2.2.2.2.1.2.1
  have st2 := hI.2.2.2.2.2.2.1.2.2.1
  have la0 : g 7 0 13 = g 8 0 4 := hI.2.2.2.2.2.2.2.2
  refine o_iload_n (n := 1) rfl rfl rfl ?_
  refine o_tabC (td := 106) rfl rfl (fun q1 => ?_) (fun j hj q1 => ?_)
  · refine o_bipush (n := 108) rfl rfl ?_
    refine o_iret rfl rfl ?_
    refine ⟨congrArg (fun z => some (vI z)) ?_, FJ_refl h6⟩
    unfold cnS
    rw [cif_f (by omega), cif_f (by omega), cif_f (by omega), cif_f (by omega), cif_f (by omega), cif_f (by omega), cif_f (by omega), cif_f (by omega), cif_f (by omega)]
  · rcases (show j = 0 ∨ j = 1 ∨ j = 2 ∨ j = 3 ∨ j = 4 ∨ j = 5 ∨ j = 6 ∨ j = 7 ∨ j = 8 by omega) with ej | ej | ej | ej | ej | ej | ej | ej | ej <;> subst ej
    · change Ou _ 52 _ _ _ _ _
      refine o_aload_n (n := 53) rfl rfl rfl ?_
      refine o_geti (n := 56) rfl rfl rfl rfl rfl ?_
      refine o_iret rfl rfl ?_
      refine ⟨congrArg (fun z => some (vI z)) ?_, FJ_refl h6⟩
      unfold cnS
      rw [cif_t (by omega)]
      exact ru0
    · change Ou _ 57 _ _ _ _ _
      refine o_aload_n (n := 58) rfl rfl rfl ?_
      refine o_invi (n := 61) rfl rfl rfl rfl rfl rfl rfl rfl rfl rfl (c7_standingBits hS hR (by omega) (by omega) (by omega) (by omega)) ?_
      rw [st78 hst ru0 (by omega), st0]
      obtain ⟨n, n1, n2, n3⟩ := lf_bc (h := g) (by omega) (by omega) (by omega)
      rw [n2]
      refine o_invsi (n := 64) rfl rfl rfl rfl rfl rfl (c_bitCount0 n n1) ?_
      refine o_iret rfl rfl ?_
      refine ⟨congrArg (fun z => some (vI z)) ?_, FJ_refl h6⟩
      unfold cnS
      rw [cif_f (by omega), cif_t (by omega)]
      exact n3
    · change Ou _ 65 _ _ _ _ _
      refine o_aload_n (n := 66) rfl rfl rfl ?_
      refine o_geti (n := 69) rfl rfl rfl rfl rfl ?_
      refine o_iret rfl rfl ?_
      refine ⟨congrArg (fun z => some (vI z)) ?_, FJ_refl h6⟩
      unfold cnS
      rw [cif_f (by omega), cif_f (by omega), cif_t (by omega)]
      exact st0
    · change Ou _ 70 _ _ _ _ _
      refine o_aload_n (n := 71) rfl rfl rfl ?_
      refine o_invi (n := 74) rfl rfl rfl rfl rfl rfl rfl rfl rfl rfl (c7_strictStanding hS hR (by omega) (by omega) (by omega) (by omega)) ?_
      rw [scS_eq hru hst]
      refine o_iret rfl rfl ?_
      refine ⟨congrArg (fun z => some (vI z)) ?_, FJ_refl h6⟩
      unfold cnS
      rw [cif_f (by omega), cif_f (by omega), cif_f (by omega), cif_t (by omega)]
    · change Ou _ 75 _ _ _ _ _
      refine o_aload_n (n := 76) rfl rfl rfl ?_
      refine of_7_1 (n := 79) hS rfl rfl ?_
      refine o_geti (n := 82) rfl rfl rfl (ok_1 (by omega) (by omega)) rfl ?_
      refine o_iret rfl rfl ?_
      refine ⟨congrArg (fun z => some (vI z)) ?_, FJ_refl h6⟩
      unfold cnS
      rw [cif_f (by omega), cif_f (by omega), cif_f (by omega), cif_f (by omega), cif_t (by omega)]
      exact wd0
    · change Ou _ 83 _ _ _ _ _
      refine o_aload_n (n := 84) rfl rfl rfl ?_
      refine o_geti (n := 87) rfl rfl rfl rfl rfl ?_
      refine o_iret rfl rfl ?_
      refine ⟨congrArg (fun z => some (vI z)) ?_, FJ_refl h6⟩
      unfold cnS
      rw [cif_f (by omega), cif_f (by omega), cif_f (by omega), cif_f (by omega), cif_f (by omega), cif_t (by omega)]
      exact wd2.1
    · change Ou _ 88 _ _ _ _ _
      refine o_aload_n (n := 89) rfl rfl rfl ?_
      refine of_7_0 (n := 92) hS rfl rfl ?_
      refine o_geti (n := 95) rfl rfl rfl rfl rfl ?_
      refine o_iret rfl rfl ?_
      refine ⟨congrArg (fun z => some (vI z)) ?_, FJ_refl h6⟩
      unfold cnS
      rw [cif_f (by omega), cif_f (by omega), cif_f (by omega), cif_f (by omega), cif_f (by omega), cif_f (by omega), cif_t (by omega)]
      exact tx3.symm
    · change Ou _ 96 _ _ _ _ _
      refine o_aload_n (n := 97) rfl rfl rfl ?_
      obtain ⟨v7, g7, r7, hc7, e7, f7⟩ := rt_ex (c7_weak hS hR h6 hnw.2 hnw.1 hru.2.1 hru.1)
      subst e7
      have hc7 : Rt 100 [vR 7 0] g r (some (vI (wkS g))) g7 r7 := hc7
      refine o_invi (n := 100) rfl rfl rfl rfl rfl rfl rfl rfl rfl rfl (hc7) ?_
      refine o_iret rfl rfl ?_
      refine ⟨congrArg (fun z => some (vI z)) ?_, f7⟩
      unfold cnS
      rw [cif_f (by omega), cif_f (by omega), cif_f (by omega), cif_f (by omega), cif_f (by omega), cif_f (by omega), cif_f (by omega), cif_t (by omega)]
    · change Ou _ 101 _ _ _ _ _
      refine o_aload_n (n := 102) rfl rfl rfl ?_
      refine o_geti (n := 105) rfl rfl rfl rfl rfl ?_
      refine o_iret rfl rfl ?_
      refine ⟨congrArg (fun z => some (vI z)) ?_, FJ_refl h6⟩
      unfold cnS
      rw [cif_f (by omega), cif_f (by omega), cif_f (by omega), cif_f (by omega), cif_f (by omega), cif_f (by omega), cif_f (by omega), cif_f (by omega), cif_t (by omega)]
      exact la0
theorem C8_count (w : Int) : C8 188 [vI w] (fun g => vI (cnS g w)) := by
  intro c g r hc0 hc1 hI
  have hI' := hI
  obtain ⟨⟨hS, hR, h6, hP⟩, hsg, htx, hru, hwd, hnw, hst, hsh, hla⟩ := hI'
  show Ou 188 0 [vR 8 0, vI w] [] g r (fun xx g1 r1 => xx = some (vI (cnS g w)) ∧ r1 = r ∧ F8 g g1)
  obtain ⟨sg1, sg2, sg3⟩ := hI.2.1
  obtain ⟨tx1, tx2, tx3, tx4⟩ := hI.2.2.1
  have ru0 : g 7 0 10 = g 8 0 8 := hI.2.2.2.1.1.1
  have ru1 := hI.2.2.2.1.2.1.1
  have wd0 : g 1 0 1 = g 8 0 14 := hI.2.2.2.2.1.1.1
  have wd1 := hI.2.2.2.2.1.2.1.1
  have wd2 := hI.2.2.2.2.1.2.2
  have nw0 : g 0 0 0 = g 27 0 8 := hI.2.2.2.2.2.1.1.1
  have nw1 : g 0 0 1 = g 28 0 8 := hI.2.2.2.2.2.1.1.2.1
  have nw2 := hI.2.2.2.2.2.1.2.1
  have nw3 := hI.2.2.2.2.2.1.2.2.1
  have st0 := hI.2.2.2.2.2.2.1.1
  have st1 := hI.2.2.2.2.2.2.1.2.1
  have st2 := hI.2.2.2.2.2.2.1.2.2.1
  have la0 : g 7 0 13 = g 8 0 4 := hI.2.2.2.2.2.2.2.2
  refine o_iload_n (n := 1) rfl rfl rfl ?_
  refine o_tabC (td := 97) rfl rfl (fun z1 => ?_) (fun j hj z1 => ?_)
  · refine o_bipush (n := 99) rfl rfl ?_
    refine o_iret rfl rfl ?_
    refine ⟨congrArg (fun z => some (vI z)) ?_, rfl, F8_refl g⟩
    unfold cnS
    rw [cif_f (by omega), cif_f (by omega), cif_f (by omega), cif_f (by omega), cif_f (by omega), cif_f (by omega), cif_f (by omega), cif_f (by omega), cif_f (by omega)]
  · rcases (show j = 0 ∨ j = 1 ∨ j = 2 ∨ j = 3 ∨ j = 4 ∨ j = 5 ∨ j = 6 ∨ j = 7 ∨ j = 8 by omega) with ej | ej | ej | ej | ej | ej | ej | ej | ej <;> subst ej
    · change Ou _ 52 _ _ _ _ _
      refine o_aload_n (n := 53) rfl rfl rfl ?_
      refine o_geti (n := 56) rfl rfl rfl rfl rfl ?_
      refine o_iret rfl rfl ?_
      refine ⟨congrArg (fun z => some (vI z)) ?_, rfl, F8_refl g⟩
      unfold cnS
      rw [cif_t (by omega)]
    · change Ou _ 57 _ _ _ _ _
      refine o_aload_n (n := 58) rfl rfl rfl ?_
      refine o_invi (n := 61) rfl rfl rfl rfl rfl rfl rfl rfl rfl rfl (c8_rulesLeft hS (by omega) (by omega) (by omega) (by omega)) ?_
      refine o_iret rfl rfl ?_
      refine ⟨congrArg (fun z => some (vI z)) ?_, rfl, F8_refl g⟩
      unfold cnS
      rw [cif_f (by omega), cif_t (by omega)]
      rfl
    · change Ou _ 62 _ _ _ _ _
      refine o_aload_n (n := 63) rfl rfl rfl ?_
      refine o_geti (n := 66) rfl rfl rfl rfl rfl ?_
      refine o_iret rfl rfl ?_
      refine ⟨congrArg (fun z => some (vI z)) ?_, rfl, F8_refl g⟩
      unfold cnS
      rw [cif_f (by omega), cif_f (by omega), cif_t (by omega)]
    · change Ou _ 67 _ _ _ _ _
      refine o_aload_n (n := 68) rfl rfl rfl ?_
      refine o_invi (n := 71) rfl rfl rfl rfl rfl rfl rfl rfl rfl rfl (c8_strictLeft hS (by omega) (by omega) (by omega) (by omega)) ?_
      refine o_iret rfl rfl ?_
      refine ⟨congrArg (fun z => some (vI z)) ?_, rfl, F8_refl g⟩
      unfold cnS
      rw [cif_f (by omega), cif_f (by omega), cif_f (by omega), cif_t (by omega)]
      rfl
    · change Ou _ 72 _ _ _ _ _
      refine o_aload_n (n := 73) rfl rfl rfl ?_
      refine o_geti (n := 76) rfl rfl rfl rfl rfl ?_
      refine o_iret rfl rfl ?_
      refine ⟨congrArg (fun z => some (vI z)) ?_, rfl, F8_refl g⟩
      unfold cnS
      rw [cif_f (by omega), cif_f (by omega), cif_f (by omega), cif_f (by omega), cif_t (by omega)]
    · change Ou _ 77 _ _ _ _ _
      refine o_aload_n (n := 78) rfl rfl rfl ?_
      refine o_geti (n := 81) rfl rfl rfl rfl rfl ?_
      refine o_iret rfl rfl ?_
      refine ⟨congrArg (fun z => some (vI z)) ?_, rfl, F8_refl g⟩
      unfold cnS
      rw [cif_f (by omega), cif_f (by omega), cif_f (by omega), cif_f (by omega), cif_f (by omega), cif_t (by omega)]
    · change Ou _ 82 _ _ _ _ _
      refine o_aload_n (n := 83) rfl rfl rfl ?_
      refine o_geti (n := 86) rfl rfl rfl rfl rfl ?_
      refine o_iret rfl rfl ?_
      refine ⟨congrArg (fun z => some (vI z)) ?_, rfl, F8_refl g⟩
      unfold cnS
      rw [cif_f (by omega), cif_f (by omega), cif_f (by omega), cif_f (by omega), cif_f (by omega), cif_f (by omega), cif_t (by omega)]
    · change Ou _ 87 _ _ _ _ _
      refine o_aload_n (n := 88) rfl rfl rfl ?_
      obtain ⟨v7, g7, r7, hc7, e7, er7, f7⟩ := rt_ex (c8_weak hS hnw.2 (Vr8_E 8) hru.2.1 (Vu8_E ru1.1))
      subst e7
      subst er7
      have hc7 : Rt 187 [vR 8 0] g r7 (some (vI (wkS g))) g7 r7 := hc7
      refine o_invi (n := 91) rfl rfl rfl rfl rfl rfl rfl rfl rfl rfl (hc7) ?_
      refine o_iret rfl rfl ?_
      refine ⟨congrArg (fun z => some (vI z)) ?_, rfl, f7⟩
      unfold cnS
      rw [cif_f (by omega), cif_f (by omega), cif_f (by omega), cif_f (by omega), cif_f (by omega), cif_f (by omega), cif_f (by omega), cif_t (by omega)]
    · change Ou _ 92 _ _ _ _ _
      refine o_aload_n (n := 93) rfl rfl rfl ?_
      refine o_geti (n := 96) rfl rfl rfl rfl rfl ?_
      refine o_iret rfl rfl ?_
      refine ⟨congrArg (fun z => some (vI z)) ?_, rfl, F8_refl g⟩
      unfold cnS
      rw [cif_f (by omega), cif_f (by omega), cif_f (by omega), cif_f (by omega), cif_f (by omega), cif_f (by omega), cif_f (by omega), cif_f (by omega), cif_t (by omega)]
theorem p_count (w : Int) : Pr 79 188 [vI w] := pr_of (C7_count w) (C8_count w) (cnS_m w)
