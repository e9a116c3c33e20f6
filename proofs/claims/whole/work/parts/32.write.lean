/-! write; bits as sets; ends. Written by wip/gen/gen32.py -/
theorem tb_shr {x k : Int} (k0 : 0 ≤ k) (k1 : k < 8) : tb (am_shr x k) 0 = tb x k.toNat := by
  have h : k = 0 ∨ k = 1 ∨ k = 2 ∨ k = 3 ∨ k = 4 ∨ k = 5 ∨ k = 6 ∨ k = 7 := by omega
  unfold tb am_shr
  rw [Int32.ofInt_toInt]
  rcases h with h | h | h | h | h | h | h | h <;> subst h
  · show (BitVec.sshiftRight' (Int32.ofInt x).toBitVec ((Int32.ofInt 0 &&& 31).toBitVec.smod 32)).getLsbD 0 = _
    rw [show (Int32.ofInt 0 &&& 31).toBitVec.smod 32 = 0#32 by decide]; simp [BitVec.sshiftRight', BitVec.getElem_sshiftRight]
  · show (BitVec.sshiftRight' (Int32.ofInt x).toBitVec ((Int32.ofInt 1 &&& 31).toBitVec.smod 32)).getLsbD 0 = _
    rw [show (Int32.ofInt 1 &&& 31).toBitVec.smod 32 = 1#32 by decide]; simp [BitVec.sshiftRight', BitVec.getElem_sshiftRight]
  · show (BitVec.sshiftRight' (Int32.ofInt x).toBitVec ((Int32.ofInt 2 &&& 31).toBitVec.smod 32)).getLsbD 0 = _
    rw [show (Int32.ofInt 2 &&& 31).toBitVec.smod 32 = 2#32 by decide]; simp [BitVec.sshiftRight', BitVec.getElem_sshiftRight]
  · show (BitVec.sshiftRight' (Int32.ofInt x).toBitVec ((Int32.ofInt 3 &&& 31).toBitVec.smod 32)).getLsbD 0 = _
    rw [show (Int32.ofInt 3 &&& 31).toBitVec.smod 32 = 3#32 by decide]; simp [BitVec.sshiftRight', BitVec.getElem_sshiftRight]
  · show (BitVec.sshiftRight' (Int32.ofInt x).toBitVec ((Int32.ofInt 4 &&& 31).toBitVec.smod 32)).getLsbD 0 = _
    rw [show (Int32.ofInt 4 &&& 31).toBitVec.smod 32 = 4#32 by decide]; simp [BitVec.sshiftRight', BitVec.getElem_sshiftRight]
  · show (BitVec.sshiftRight' (Int32.ofInt x).toBitVec ((Int32.ofInt 5 &&& 31).toBitVec.smod 32)).getLsbD 0 = _
    rw [show (Int32.ofInt 5 &&& 31).toBitVec.smod 32 = 5#32 by decide]; simp [BitVec.sshiftRight', BitVec.getElem_sshiftRight]
  · show (BitVec.sshiftRight' (Int32.ofInt x).toBitVec ((Int32.ofInt 6 &&& 31).toBitVec.smod 32)).getLsbD 0 = _
    rw [show (Int32.ofInt 6 &&& 31).toBitVec.smod 32 = 6#32 by decide]; simp [BitVec.sshiftRight', BitVec.getElem_sshiftRight]
  · show (BitVec.sshiftRight' (Int32.ofInt x).toBitVec ((Int32.ofInt 7 &&& 31).toBitVec.smod 32)).getLsbD 0 = _
    rw [show (Int32.ofInt 7 &&& 31).toBitVec.smod 32 = 7#32 by decide]; simp [BitVec.sshiftRight', BitVec.getElem_sshiftRight]
theorem and1_tb {x : Int} : am_and x 1 = 1 ↔ tb x 0 = true := by
  constructor
  · intro h
    have h2 : tb (am_and x 1) 0 = true := by rw [h, tb_1 0 (by decide)]; rfl
    rw [tb_and] at h2
    cases q : tb x 0 with
    | true => rfl
    | false => rw [q] at h2; cases h2
  · intro h
    rcases and1_01 x with e | e
    · exfalso
      have h2 : tb (am_and x 1) 0 = false := by rw [e]; exact tb_0 0
      rw [tb_and, h, tb_1 0 (by decide)] at h2
      cases h2
    · exact e
theorem bt_tb {x k : Int} (k0 : 0 ≤ k) (k1 : k < 8) : bt x k ↔ tb x k.toNat = true := by
  unfold bt
  rw [and1_tb, tb_shr k0 k1]
theorem bt_and {x y k : Int} (k0 : 0 ≤ k) (k1 : k < 8) : bt (am_and x y) k ↔ bt x k ∧ bt y k := by
  rw [bt_tb k0 k1, bt_tb k0 k1, bt_tb k0 k1, tb_and, Bool.and_eq_true]
theorem bt_or {x y k : Int} (k0 : 0 ≤ k) (k1 : k < 8) : bt (am_or x y) k ↔ bt x k ∨ bt y k := by
  rw [bt_tb k0 k1, bt_tb k0 k1, bt_tb k0 k1, tb_or, Bool.or_eq_true]
theorem bt_not {x k : Int} (k0 : 0 ≤ k) (k1 : k < 8) : bt (am_xor x (-1)) k ↔ ¬ bt x k := by
  rw [bt_tb k0 k1, bt_tb k0 k1, tb_xor, tb_m1 _ (by omega)]
  cases tb x k.toNat <;> simp
theorem bt_shlk : ∀ i : Nat, i < 8 → ∀ k : Nat, k < 8 → (am_and (am_shr (am_shl 1 (i : Int)) (k : Int)) 1 = 1 ↔ k = i) := by decide +kernel
theorem bt_shl {i k : Int} (i0 : 0 ≤ i) (i1 : i < 8) (k0 : 0 ≤ k) (k1 : k < 8) : bt (am_shl 1 i) k ↔ k = i := by
  obtain ⟨a, rfl⟩ := Int.eq_ofNat_of_zero_le i0
  obtain ⟨b, rfl⟩ := Int.eq_ofNat_of_zero_le k0
  have := bt_shlk a (by omega) b (by omega)
  unfold bt
  rw [this]
  omega
theorem st78 {g h r : GI} {k : Int} (i : Ist g h r) (hr : g 7 0 10 = h 8 0 8) (k1 : k ≤ h 8 0 19) : st7 g r k = st8 h k := by
  unfold st7 st8
  rw [hr]
  exact lb_congr (fun j j0 j1 => (i.2.2.2 j j0 (by omega)).1)
theorem p_write (a : Int) : Pr 78 185 [vI a] := by
  intro c g r hc0 hc1 hI
  have hI' := hI
  obtain ⟨⟨hS, hR, h6, hP⟩, hsg, htx, hru, hwd, hnw, hst, hsh, hla⟩ := hI'
  show Ou 78 0 [vR 7 0, vI a, vN, vN] [] g r _
  obtain ⟨sg1, sg2, sg3⟩ := hI.2.1
  obtain ⟨tx1, tx2, tx3, tx4⟩ := hI.2.2.1
  have ru0 : g 7 0 10 = g 8 0 8 := hI.2.2.2.1.1.1
  have ru1 := hI.2.2.2.1.2.1.1
  have wd0 : g 1 0 1 = g 8 0 14 := hI.2.2.2.2.1.1.1
  have wd1 := hI.2.2.2.2.1.2.1.1
  have wd2 := hI.2.2.2.2.1.2.2
  have nw0 : g 0 0 0 = g 27 0 8 := hI.2.2.2.2.2.1.1.1
  have nw1 : g 0 0 1 = g 28 0 8 := hI.2.2.2.2.2.1.1.2.1
  have nw2 := hI.2.2.2.2.2.1.2.1
  have nw3 := hI.2.2.2.2.2.1.2.2.1
  have st0 := hI.2.2.2.2.2.2.1.1
  have st1 := hI.2.2.2.2.2.2.1.2.1
  have st2 := hI.2.2.2.2.2.2.1.2.2.1
  have la0 : g 7 0 13 = g 8 0 4 := hI.2.2.2.2.2.2.2.2
  have sh_a : (0 ≤ a ∧ a < 4) → (g 3 a 0 = g 17 0 a ∧ -1 ≤ g 17 0 a ∧ g 17 0 a ≤ 2 ∧ g 3 a 1 = g 18 0 a ∧ 0 ≤ g 18 0 a ∧ g 18 0 a ≤ 60) := fun z => by
    have := hsh a z.1 z.2
    exact ⟨this.1.1, this.1.2.1, this.1.2.2, this.2.1.1, this.2.1.2.1, this.2.1.2.2⟩
  refine o_iload_n (n := 1) rfl rfl rfl ?_
  refine o_invsi (n := 4) rfl rfl rfl rfl rfl rfl (c7_isSheet _) ?_
  refine o_ifb_ne (n := 7) (t := 10) rfl rfl rfl (fun q4 => ?_) (fun q4 => ?_)
  · refine o_aload_n (n := 11) rfl rfl rfl ?_
    refine of_7_4 (n := 14) hS rfl rfl ?_
    refine o_iload_n (n := 15) rfl rfl rfl ?_
    refine o_shr (n := 16) hS rfl rfl (by omega) (by omega) ?_
    refine o_geti (n := 19) rfl rfl rfl (ok_3 (by omega) (by omega)) rfl ?_
    refine o_iconst (n := 20) rfl rfl ?_
    refine o_icmp_ne (n := 23) (t := 29) rfl rfl rfl (fun q20 => ?_) (fun q20 => ?_)
    · refine o_aload_n (n := 30) rfl rfl rfl ?_
      refine of_7_4 (n := 33) hS rfl rfl ?_
      refine o_iload_n (n := 34) rfl rfl rfl ?_
      refine o_shr (n := 35) hS rfl rfl (by omega) (by omega) ?_
      refine o_geti (n := 38) rfl rfl rfl (ok_3 (by omega) (by omega)) rfl ?_
      refine o_aload_n (n := 39) rfl rfl rfl ?_
      refine of_7_1 (n := 42) hS rfl rfl ?_
      refine o_geti (n := 45) rfl rfl rfl (ok_1 (by omega) (by omega)) rfl ?_
      refine o_min (n := 48) rfl rfl rfl ?_
      refine o_istore_2 (n := 49) rfl rfl rfl ?_
      refine o_iconst (n := 50) rfl rfl ?_
      refine o_istore_3 (n := 51) rfl rfl rfl ?_
      obtain ⟨N, hN⟩ : ∃ N, N = (if g 1 0 1 < g 3 a 1 then g 1 0 1 else g 3 a 1) := ⟨_, rfl⟩
      rw [← hN]
      have hNb : 0 ≤ N ∧ N ≤ g 18 0 a ∧ N ≤ g 8 0 14 ∧ (N = g 18 0 a ∨ N = g 8 0 14) := by
        rw [hN]
        split <;> omega
      obtain ⟨k1, v1, g1, r1, e1, e2, e3, f1, f2, f3⟩ := l7_wr (g := g) (r := r) (a := a) (n := N) hS (by omega) (by omega) (by omega) N.toNat 0 g (by omega) (by omega) ⟨fun _ _ => rfl, fun _ _ _ => rfl⟩ (fun x => by rw [cif_f (by omega)])
      subst e2; subst e3
      refine ⟨k1, _, _, _, e1, ?_⟩
      refine q8_of (g := g) (r := r1) (fun k hk => f1 k (isM_ne hk (by decide))) hI (fun h hh hJ => ?_)
      show Ou 185 0 [vR 8 0, vI a, vN, vN] [] h _ _
      obtain ⟨jsg1, jsg2, jsg3⟩ := hJ.2.1
      obtain ⟨jtx1, jtx2, jtx3, jtx4⟩ := hJ.2.2.1
      have jru0 : g 7 0 10 = h 8 0 8 := hJ.2.2.2.1.1.1
      have jru1 := hJ.2.2.2.1.2.1.1
      have jwd0 : g 1 0 1 = h 8 0 14 := hJ.2.2.2.2.1.1.1
      have jwd1 := hJ.2.2.2.2.1.2.1.1
      have jwd2 := hJ.2.2.2.2.1.2.2
      have jnw0 : g 0 0 0 = h 27 0 8 := hJ.2.2.2.2.2.1.1.1
      have jnw1 : g 0 0 1 = h 28 0 8 := hJ.2.2.2.2.2.1.1.2.1
      have jnw2 := hJ.2.2.2.2.2.1.2.1
      have jnw3 := hJ.2.2.2.2.2.1.2.2.1
      have jst0 := hJ.2.2.2.2.2.2.1.1
      have jst1 := hJ.2.2.2.2.2.2.1.2.1
      have jst2 := hJ.2.2.2.2.2.2.1.2.2.1
      have jla0 : g 7 0 13 = h 8 0 4 := hJ.2.2.2.2.2.2.2.2
      have jsh_a : (0 ≤ a ∧ a < 4) → (g 3 a 0 = h 17 0 a ∧ -1 ≤ h 17 0 a ∧ h 17 0 a ≤ 2 ∧ g 3 a 1 = h 18 0 a ∧ 0 ≤ h 18 0 a ∧ h 18 0 a ≤ 60) := fun z => by
        have := hJ.2.2.2.2.2.2.2.1 a z.1 z.2
        exact ⟨this.1.1, this.1.2.1, this.1.2.2, this.2.1.1, this.2.1.2.1, this.2.1.2.2⟩
      have hNm : cif (h 18 0 a < h 8 0 14) (h 18 0 a) (h 8 0 14) = N := by
        by_cases z : h 18 0 a < h 8 0 14
        · rw [cif_t z]; omega
        · rw [cif_f z]; omega
      refine o_iload_n (n := 1) rfl rfl rfl ?_
      refine o_invsi (n := 4) rfl rfl rfl rfl rfl rfl (c8_isSheet _) ?_
      refine o_ifb_ne (n := 7) (t := 10) rfl rfl rfl (fun k4 => ?_) (fun k4 => ?_)
      · refine o_aload_n (n := 11) rfl rfl rfl ?_
        refine of_8_0 (n := 14) hS rfl rfl ?_
        refine o_iload_n (n := 15) rfl rfl rfl ?_
        refine o_iald (n := 16) (L := 4) rfl rfl rfl rfl rfl (by omega) (by omega) ?_
        refine o_if_ge (n := 19) (t := 25) rfl rfl rfl (fun k16 => ?_) (fun k16 => ?_)
        · refine o_aload_n (n := 26) rfl rfl rfl ?_
          refine of_8_1 (n := 29) hS rfl rfl ?_
          refine o_iload_n (n := 30) rfl rfl rfl ?_
          refine o_iald (n := 31) (L := 4) rfl rfl rfl rfl rfl (by omega) (by omega) ?_
          refine o_aload_n (n := 32) rfl rfl rfl ?_
          refine o_geti (n := 35) rfl rfl rfl rfl rfl ?_
          refine o_invsi (n := 38) rfl rfl rfl rfl rfl rfl (c8_lesser _ _) ?_
          rw [hNm]
          refine o_istore_2 (n := 39) rfl rfl rfl ?_
          refine o_iconst (n := 40) rfl rfl ?_
          refine o_istore_3 (n := 41) rfl rfl rfl ?_
          obtain ⟨k2, v2, g2, r2, e1', e2, e3, e4, e5⟩ := l8_wr (h := h) (a := a) (n := N) hS (by omega) (by omega) (by omega) N.toNat 0 h (by omega) (by omega) (fun _ _ => rfl) (fun x => by rw [cif_f (by omega)])
          subst e2; subst e3
          subst hh
          have eg : ∀ k, k ≠ 3 → k ≠ 11 → k ≠ 17 → k ≠ 18 → k ≠ 19 → k ≠ 20 → g2 k = g k := fun k a1 a2 a3 a4 a5 a6 => (e4 k a5).trans (f1 k a2)
          refine ⟨k2, _, _, _, e1', rfl, Iv_sh eg (fun s s0 s1 => ?_) hI, eg 34 (by decide) (by decide) (by decide) (by decide) (by decide) (by decide), eg 35 (by decide) (by decide) (by decide) (by decide) (by decide) (by decide)⟩
          have hs := hsh s s0 s1
          rw [e4 3 (by decide), e4 17 (by decide), e4 18 (by decide), e4 11 (by decide), f1 3 (by decide), f1 17 (by decide), f1 18 (by decide)]
          refine ⟨hs.1, hs.2.1, fun x x0 x1 => ?_⟩
          rw [e5, f1 19 (by decide), f1 17 (by decide), f1 25 (by decide)]
          by_cases z : s = a
          · subst z
            rw [f3]
            by_cases y : x < N
            · rw [cif_t (by omega), cif_t (by omega), show 60 * s + x - 60 * s = x by omega, hwd.1.2 x x0 (by omega), hs.1.1]
            · rw [cif_f (by omega), cif_f (by omega)]; exact hs.2.2 x x0 x1
          · rw [f2 s x z, cif_f (by omega)]; exact hs.2.2 x x0 x1
        · refine o_aload_n (n := 20) rfl rfl rfl ?_
          refine o_iconst (n := 21) rfl rfl ?_
          refine o_invi (n := 24) rfl rfl rfl rfl rfl rfl rfl rfl rfl rfl (c8_finds _ (by omega) (by omega)) ?_
          refine o_iret rfl rfl ?_
          exfalso; omega
      · refine o_bipush (n := 9) rfl rfl ?_
        refine o_iret rfl rfl ?_
        exfalso; omega
    · refine o_aload_n (n := 24) rfl rfl rfl ?_
      refine o_iconst (n := 25) rfl rfl ?_
      refine o_invi (n := 28) rfl rfl rfl rfl rfl rfl rfl rfl rfl rfl (c7_found _ (by omega) (by omega)) ?_
      refine o_iret rfl rfl ?_
      refine q8_of (g := g) (r := r) (fun k hk => by first | rfl | exact gset_kf (isM_ne hk (by decide)) | exact (gset_kf (isM_ne hk (by decide))).trans (gset_kf (isM_ne hk (by decide))) | exact (gset_kf (isM_ne hk (by decide))).trans ((gset_kf (isM_ne hk (by decide))).trans (gset_kf (isM_ne hk (by decide)))) | exact (gset_kf (isM_ne hk (by decide))).trans ((gset_kf (isM_ne hk (by decide))).trans ((gset_kf (isM_ne hk (by decide))).trans (gset_kf (isM_ne hk (by decide)))))) hI (fun h hh hJ => ?_)
      show Ou 185 0 [vR 8 0, vI a, vN, vN] [] h _ _
      obtain ⟨jsg1, jsg2, jsg3⟩ := hJ.2.1
      obtain ⟨jtx1, jtx2, jtx3, jtx4⟩ := hJ.2.2.1
      have jru0 : g 7 0 10 = h 8 0 8 := hJ.2.2.2.1.1.1
      have jru1 := hJ.2.2.2.1.2.1.1
      have jwd0 : g 1 0 1 = h 8 0 14 := hJ.2.2.2.2.1.1.1
      have jwd1 := hJ.2.2.2.2.1.2.1.1
      have jwd2 := hJ.2.2.2.2.1.2.2
      have jnw0 : g 0 0 0 = h 27 0 8 := hJ.2.2.2.2.2.1.1.1
      have jnw1 : g 0 0 1 = h 28 0 8 := hJ.2.2.2.2.2.1.1.2.1
      have jnw2 := hJ.2.2.2.2.2.1.2.1
      have jnw3 := hJ.2.2.2.2.2.1.2.2.1
      have jst0 := hJ.2.2.2.2.2.2.1.1
      have jst1 := hJ.2.2.2.2.2.2.1.2.1
      have jst2 := hJ.2.2.2.2.2.2.1.2.2.1
      have jla0 : g 7 0 13 = h 8 0 4 := hJ.2.2.2.2.2.2.2.2
      have jsh_a : (0 ≤ a ∧ a < 4) → (g 3 a 0 = h 17 0 a ∧ -1 ≤ h 17 0 a ∧ h 17 0 a ≤ 2 ∧ g 3 a 1 = h 18 0 a ∧ 0 ≤ h 18 0 a ∧ h 18 0 a ≤ 60) := fun z => by
        have := hJ.2.2.2.2.2.2.2.1 a z.1 z.2
        exact ⟨this.1.1, this.1.2.1, this.1.2.2, this.2.1.1, this.2.1.2.1, this.2.1.2.2⟩
      refine o_iload_n (n := 1) rfl rfl rfl ?_
      refine o_invsi (n := 4) rfl rfl rfl rfl rfl rfl (c8_isSheet _) ?_
      refine o_ifb_ne (n := 7) (t := 10) rfl rfl rfl (fun k4 => ?_) (fun k4 => ?_)
      · refine o_aload_n (n := 11) rfl rfl rfl ?_
        refine of_8_0 (n := 14) hS rfl rfl ?_
        refine o_iload_n (n := 15) rfl rfl rfl ?_
        refine o_iald (n := 16) (L := 4) rfl rfl rfl rfl rfl (by omega) (by omega) ?_
        refine o_if_ge (n := 19) (t := 25) rfl rfl rfl (fun k16 => ?_) (fun k16 => ?_)
        · refine o_aload_n (n := 26) rfl rfl rfl ?_
          refine of_8_1 (n := 29) hS rfl rfl ?_
          refine o_iload_n (n := 30) rfl rfl rfl ?_
          refine o_iald (n := 31) (L := 4) rfl rfl rfl rfl rfl (by omega) (by omega) ?_
          refine o_aload_n (n := 32) rfl rfl rfl ?_
          refine o_geti (n := 35) rfl rfl rfl rfl rfl ?_
          refine o_invsi (n := 38) rfl rfl rfl rfl rfl rfl (c8_lesser _ _) ?_
          refine o_istore_2 (n := 39) rfl rfl rfl ?_
          refine o_iconst (n := 40) rfl rfl ?_
          refine o_istore_3 (n := 41) rfl rfl rfl ?_
          exfalso; omega
        · refine o_aload_n (n := 20) rfl rfl rfl ?_
          refine o_iconst (n := 21) rfl rfl ?_
          refine o_invi (n := 24) rfl rfl rfl rfl rfl rfl rfl rfl rfl rfl (c8_finds _ (by omega) (by omega)) ?_
          refine o_iret rfl rfl ?_
          first
            | (exfalso; omega; done)
            | (refine ⟨rfl, ?_, ?_, ?_⟩
               · subst hh; exact ⟨⟨hS, hR, h6, hP⟩, Isg_c (g := g) (h := g) rfl rfl hsg, Itx_c (g := g) (h := g) rfl rfl rfl rfl htx, Iru_c (g := g) (h := g) (r := r) (by omega) hR (fun _ _ _ => rfl) (fun _ _ _ => rfl) rfl rfl rfl rfl rfl rfl rfl rfl hru, Iwd_c (g := g) (h := g) (by omega) rfl rfl rfl rfl rfl rfl hwd, Inw_c (g := g) (h := g) rfl rfl rfl rfl (fun _ _ _ => rfl) hnw, Ist_c (g := g) (h := g) (r := r) hR rfl rfl (fun _ _ _ => rfl) (fun _ _ _ => rfl) rfl rfl rfl rfl (fun _ _ => rfl) (fun _ _ => rfl) (fun _ _ => rfl) rfl rfl rfl hst, Ish_c (g := g) (h := g) rfl rfl rfl rfl rfl hsh, rfl⟩
               · subst hh; rfl
               · subst hh; rfl)
            | (refine ⟨congrArg (fun z => some (vI z)) ?_, ?_, ?_, ?_⟩
               · omega
               · subst hh; exact ⟨⟨hS, hR, h6, hP⟩, Isg_c (g := g) (h := g) rfl rfl hsg, Itx_c (g := g) (h := g) rfl rfl rfl rfl htx, Iru_c (g := g) (h := g) (r := r) (by omega) hR (fun _ _ _ => rfl) (fun _ _ _ => rfl) rfl rfl rfl rfl rfl rfl rfl rfl hru, Iwd_c (g := g) (h := g) (by omega) rfl rfl rfl rfl rfl rfl hwd, Inw_c (g := g) (h := g) rfl rfl rfl rfl (fun _ _ _ => rfl) hnw, Ist_c (g := g) (h := g) (r := r) hR rfl rfl (fun _ _ _ => rfl) (fun _ _ _ => rfl) rfl rfl rfl rfl (fun _ _ => rfl) (fun _ _ => rfl) (fun _ _ => rfl) rfl rfl rfl hst, Ish_c (g := g) (h := g) rfl rfl rfl rfl rfl hsh, rfl⟩
               · subst hh; rfl
               · subst hh; rfl)
      · refine o_bipush (n := 9) rfl rfl ?_
        refine o_iret rfl rfl ?_
        first
          | (exfalso; omega; done)
          | (refine ⟨rfl, ?_, ?_, ?_⟩
             · subst hh; exact ⟨⟨hS, hR, h6, hP⟩, Isg_c (g := g) (h := g) rfl rfl hsg, Itx_c (g := g) (h := g) rfl rfl rfl rfl htx, Iru_c (g := g) (h := g) (r := r) (by omega) hR (fun _ _ _ => rfl) (fun _ _ _ => rfl) rfl rfl rfl rfl rfl rfl rfl rfl hru, Iwd_c (g := g) (h := g) (by omega) rfl rfl rfl rfl rfl rfl hwd, Inw_c (g := g) (h := g) rfl rfl rfl rfl (fun _ _ _ => rfl) hnw, Ist_c (g := g) (h := g) (r := r) hR rfl rfl (fun _ _ _ => rfl) (fun _ _ _ => rfl) rfl rfl rfl rfl (fun _ _ => rfl) (fun _ _ => rfl) (fun _ _ => rfl) rfl rfl rfl hst, Ish_c (g := g) (h := g) rfl rfl rfl rfl rfl hsh, Ila_c (g := g) (h := g) rfl rfl hla⟩
             · subst hh; rfl
             · subst hh; rfl)
          | (refine ⟨congrArg (fun z => some (vI z)) ?_, ?_, ?_, ?_⟩
             · omega
             · subst hh; exact ⟨⟨hS, hR, h6, hP⟩, Isg_c (g := g) (h := g) rfl rfl hsg, Itx_c (g := g) (h := g) rfl rfl rfl rfl htx, Iru_c (g := g) (h := g) (r := r) (by omega) hR (fun _ _ _ => rfl) (fun _ _ _ => rfl) rfl rfl rfl rfl rfl rfl rfl rfl hru, Iwd_c (g := g) (h := g) (by omega) rfl rfl rfl rfl rfl rfl hwd, Inw_c (g := g) (h := g) rfl rfl rfl rfl (fun _ _ _ => rfl) hnw, Ist_c (g := g) (h := g) (r := r) hR rfl rfl (fun _ _ _ => rfl) (fun _ _ _ => rfl) rfl rfl rfl rfl (fun _ _ => rfl) (fun _ _ => rfl) (fun _ _ => rfl) rfl rfl rfl hst, Ish_c (g := g) (h := g) rfl rfl rfl rfl rfl hsh, Ila_c (g := g) (h := g) rfl rfl hla⟩
             · subst hh; rfl
             · subst hh; rfl)
  · refine o_bipush (n := 9) rfl rfl ?_
    refine o_iret rfl rfl ?_
    refine q8_of (g := g) (r := r) (fun k hk => by first | rfl | exact gset_kf (isM_ne hk (by decide)) | exact (gset_kf (isM_ne hk (by decide))).trans (gset_kf (isM_ne hk (by decide))) | exact (gset_kf (isM_ne hk (by decide))).trans ((gset_kf (isM_ne hk (by decide))).trans (gset_kf (isM_ne hk (by decide)))) | exact (gset_kf (isM_ne hk (by decide))).trans ((gset_kf (isM_ne hk (by decide))).trans ((gset_kf (isM_ne hk (by decide))).trans (gset_kf (isM_ne hk (by decide)))))) hI (fun h hh hJ => ?_)
    show Ou 185 0 [vR 8 0, vI a, vN, vN] [] h _ _
    obtain ⟨jsg1, jsg2, jsg3⟩ := hJ.2.1
    obtain ⟨jtx1, jtx2, jtx3, jtx4⟩ := hJ.2.2.1
    have jru0 : g 7 0 10 = h 8 0 8 := hJ.2.2.2.1.1.1
    have jru1 := hJ.2.2.2.1.2.1.1
    have jwd0 : g 1 0 1 = h 8 0 14 := hJ.2.2.2.2.1.1.1
    have jwd1 := hJ.2.2.2.2.1.2.1.1
    have jwd2 := hJ.2.2.2.2.1.2.2
    have jnw0 : g 0 0 0 = h 27 0 8 := hJ.2.2.2.2.2.1.1.1
    have jnw1 : g 0 0 1 = h 28 0 8 := hJ.2.2.2.2.2.1.1.2.1
    have jnw2 := hJ.2.2.2.2.2.1.2.1
    have jnw3 := hJ.2.2.2.2.2.1.2.2.1
    have jst0 := hJ.2.2.2.2.2.2.1.1
    have jst1 := hJ.2.2.2.2.2.2.1.2.1
    have jst2 := hJ.2.2.2.2.2.2.1.2.2.1
    have jla0 : g 7 0 13 = h 8 0 4 := hJ.2.2.2.2.2.2.2.2
    have jsh_a : (0 ≤ a ∧ a < 4) → (g 3 a 0 = h 17 0 a ∧ -1 ≤ h 17 0 a ∧ h 17 0 a ≤ 2 ∧ g 3 a 1 = h 18 0 a ∧ 0 ≤ h 18 0 a ∧ h 18 0 a ≤ 60) := fun z => by
      have := hJ.2.2.2.2.2.2.2.1 a z.1 z.2
      exact ⟨this.1.1, this.1.2.1, this.1.2.2, this.2.1.1, this.2.1.2.1, this.2.1.2.2⟩
    refine o_iload_n (n := 1) rfl rfl rfl ?_
    refine o_invsi (n := 4) rfl rfl rfl rfl rfl rfl (c8_isSheet _) ?_
    refine o_ifb_ne (n := 7) (t := 10) rfl rfl rfl (fun k4 => ?_) (fun k4 => ?_)
    · refine o_aload_n (n := 11) rfl rfl rfl ?_
      refine of_8_0 (n := 14) hS rfl rfl ?_
      refine o_iload_n (n := 15) rfl rfl rfl ?_
      refine o_iald (n := 16) (L := 4) rfl rfl rfl rfl rfl (by omega) (by omega) ?_
      refine o_if_ge (n := 19) (t := 25) rfl rfl rfl (fun k16 => ?_) (fun k16 => ?_)
      · refine o_aload_n (n := 26) rfl rfl rfl ?_
        refine of_8_1 (n := 29) hS rfl rfl ?_
        refine o_iload_n (n := 30) rfl rfl rfl ?_
        refine o_iald (n := 31) (L := 4) rfl rfl rfl rfl rfl (by omega) (by omega) ?_
        refine o_aload_n (n := 32) rfl rfl rfl ?_
        refine o_geti (n := 35) rfl rfl rfl rfl rfl ?_
        refine o_invsi (n := 38) rfl rfl rfl rfl rfl rfl (c8_lesser _ _) ?_
        refine o_istore_2 (n := 39) rfl rfl rfl ?_
        refine o_iconst (n := 40) rfl rfl ?_
        refine o_istore_3 (n := 41) rfl rfl rfl ?_
        exfalso; omega
      · refine o_aload_n (n := 20) rfl rfl rfl ?_
        refine o_iconst (n := 21) rfl rfl ?_
        refine o_invi (n := 24) rfl rfl rfl rfl rfl rfl rfl rfl rfl rfl (c8_finds _ (by omega) (by omega)) ?_
        refine o_iret rfl rfl ?_
        first
          | (exfalso; omega; done)
          | (refine ⟨rfl, ?_, ?_, ?_⟩
             · subst hh; exact ⟨⟨hS, hR, h6, hP⟩, Isg_c (g := g) (h := g) rfl rfl hsg, Itx_c (g := g) (h := g) rfl rfl rfl rfl htx, Iru_c (g := g) (h := g) (r := r) (by omega) hR (fun _ _ _ => rfl) (fun _ _ _ => rfl) rfl rfl rfl rfl rfl rfl rfl rfl hru, Iwd_c (g := g) (h := g) (by omega) rfl rfl rfl rfl rfl rfl hwd, Inw_c (g := g) (h := g) rfl rfl rfl rfl (fun _ _ _ => rfl) hnw, Ist_c (g := g) (h := g) (r := r) hR rfl rfl (fun _ _ _ => rfl) (fun _ _ _ => rfl) rfl rfl rfl rfl (fun _ _ => rfl) (fun _ _ => rfl) (fun _ _ => rfl) rfl rfl rfl hst, Ish_c (g := g) (h := g) rfl rfl rfl rfl rfl hsh, rfl⟩
             · subst hh; rfl
             · subst hh; rfl)
          | (refine ⟨congrArg (fun z => some (vI z)) ?_, ?_, ?_, ?_⟩
             · omega
             · subst hh; exact ⟨⟨hS, hR, h6, hP⟩, Isg_c (g := g) (h := g) rfl rfl hsg, Itx_c (g := g) (h := g) rfl rfl rfl rfl htx, Iru_c (g := g) (h := g) (r := r) (by omega) hR (fun _ _ _ => rfl) (fun _ _ _ => rfl) rfl rfl rfl rfl rfl rfl rfl rfl hru, Iwd_c (g := g) (h := g) (by omega) rfl rfl rfl rfl rfl rfl hwd, Inw_c (g := g) (h := g) rfl rfl rfl rfl (fun _ _ _ => rfl) hnw, Ist_c (g := g) (h := g) (r := r) hR rfl rfl (fun _ _ _ => rfl) (fun _ _ _ => rfl) rfl rfl rfl rfl (fun _ _ => rfl) (fun _ _ => rfl) (fun _ _ => rfl) rfl rfl rfl hst, Ish_c (g := g) (h := g) rfl rfl rfl rfl rfl hsh, rfl⟩
             · subst hh; rfl
             · subst hh; rfl)
    · refine o_bipush (n := 9) rfl rfl ?_
      refine o_iret rfl rfl ?_
      first
        | (exfalso; omega; done)
        | (refine ⟨rfl, ?_, ?_, ?_⟩
           · subst hh; exact ⟨⟨hS, hR, h6, hP⟩, Isg_c (g := g) (h := g) rfl rfl hsg, Itx_c (g := g) (h := g) rfl rfl rfl rfl htx, Iru_c (g := g) (h := g) (r := r) (by omega) hR (fun _ _ _ => rfl) (fun _ _ _ => rfl) rfl rfl rfl rfl rfl rfl rfl rfl hru, Iwd_c (g := g) (h := g) (by omega) rfl rfl rfl rfl rfl rfl hwd, Inw_c (g := g) (h := g) rfl rfl rfl rfl (fun _ _ _ => rfl) hnw, Ist_c (g := g) (h := g) (r := r) hR rfl rfl (fun _ _ _ => rfl) (fun _ _ _ => rfl) rfl rfl rfl rfl (fun _ _ => rfl) (fun _ _ => rfl) (fun _ _ => rfl) rfl rfl rfl hst, Ish_c (g := g) (h := g) rfl rfl rfl rfl rfl hsh, Ila_c (g := g) (h := g) rfl rfl hla⟩
           · subst hh; rfl
           · subst hh; rfl)
        | (refine ⟨congrArg (fun z => some (vI z)) ?_, ?_, ?_, ?_⟩
           · omega
           · subst hh; exact ⟨⟨hS, hR, h6, hP⟩, Isg_c (g := g) (h := g) rfl rfl hsg, Itx_c (g := g) (h := g) rfl rfl rfl rfl htx, Iru_c (g := g) (h := g) (r := r) (by omega) hR (fun _ _ _ => rfl) (fun _ _ _ => rfl) rfl rfl rfl rfl rfl rfl rfl rfl hru, Iwd_c (g := g) (h := g) (by omega) rfl rfl rfl rfl rfl rfl hwd, Inw_c (g := g) (h := g) rfl rfl rfl rfl (fun _ _ _ => rfl) hnw, Ist_c (g := g) (h := g) (r := r) hR rfl rfl (fun _ _ _ => rfl) (fun _ _ _ => rfl) rfl rfl rfl rfl (fun _ _ => rfl) (fun _ _ => rfl) (fun _ _ => rfl) rfl rfl rfl hst, Ish_c (g := g) (h := g) rfl rfl rfl rfl rfl hsh, Ila_c (g := g) (h := g) rfl rfl hla⟩
           · subst hh; rfl
           · subst hh; rfl)
