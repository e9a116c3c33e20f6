/-! SIMULATION, first groups: loads, constants, stores, arithmetic, branches -/
def am_gw : List Cond := lw_tbl.filter goodWord
theorem am_g {w : Cond} (h : w ∈ lw_tbl) (hg : goodWord w = true) : w ∈ am_gw := List.mem_filter.mpr ⟨h, hg⟩
theorem am_lko (n : Int) : ∀ (l : List (Int × Int)) (dd k : Int), 0 ≤ n + dd → (∀ q ∈ l, 0 ≤ n + q.2) → 0 ≤ n + Op.lookupswitch.offset l dd k
  | [], _, _, h, _ => h
  | (a, o) :: r, dd, k, h, hq => by
    rw [Op.lookupswitch.offset_cons]
    split
    · exact hq _ List.mem_cons_self
    · exact am_lko n r dd k h (fun q hm => hq q (List.mem_cons_of_mem _ hm))
section AMS
variable {p : Program} {l : Launch} {e : Env} {R : Room} {s : State} {mi : MethodId} {args : Array Value} {below : List Frame} {meth : Method} {c : Code} {H : Heap} {locs : List Loc} {cells slots : Nat} {Q : State → Prop}
variable {B S m pc : Nat} {lc : Array Slot} {ls st : List AV} {i : Instr} {a : Int} {b c1 d : Nat}
theorem am_simld {v : AV} {rest : List Value} (hx : p.tables.exec = Jvm.exec) (hb : c.code = am_by m) (hl : lv_has lc (am_ml m) (am_lv B S 0 ls)) (hd : decode (am_by m) pc = .ok (i, am_ln i)) (h : am_ld i ls = some v)
    (kk : W p l e R s mi args below meth c H locs cells slots Q (F0 mi (pc + am_ln i) lc (am_cv B S v :: rest))) : W p l e R s mi args below meth c H locs cells slots Q (F0 mi pc lc rest) := by
  have hin : ∀ {k : Nat}, am_isN (am_nth ls k) = false → lc[k]? = some (.val (am_cv B S (am_nth ls k))) := fun {k} hn => by
    have := hl.2.2 _ (am_lv_in (B := B) (S := S) (i := 0) hn)
    rwa [Nat.zero_add] at this
  unfold am_ld at h
  split at h
  · obtain ⟨x, e1, rfl⟩ := am_gi_eq h
    have := hin (by rw [e1]; rfl)
    rw [e1] at this
    exact lv_iload_n hx hb hd rfl this kk
  · obtain ⟨x, e1, rfl⟩ := am_gi_eq h
    have := hin (by rw [e1]; rfl)
    rw [e1] at this
    exact lv_iload hx hb hd this kk
  · obtain ⟨x, e1, rfl⟩ := am_gl_eq h
    have := hin (by rw [e1]; rfl)
    rw [e1] at this
    exact lv_lload_n hx hb hd rfl this kk
  · obtain ⟨x, e1, rfl⟩ := am_gl_eq h
    have := hin (by rw [e1]; rfl)
    rw [e1] at this
    exact lv_lload hx hb hd this kk
  · obtain ⟨x, e1, rfl⟩ := am_gr_eq h
    have := hin (by rw [e1]; rfl)
    rw [e1] at this
    exact lv_aload_n hx hb hd rfl this kk
  · obtain ⟨x, e1, rfl⟩ := am_gr_eq h
    have := hin (by rw [e1]; rfl)
    rw [e1] at this
    exact lv_aload hx hb hd this kk
  · cases h
theorem am_simcst {v : AV} {rest : List Value} (hx : p.tables.exec = Jvm.exec) (hb : c.code = am_by m) (hown : s.vm.findClass (am_cn (am_oc m)) = some mi.cls) (hts : ∀ w ∈ am_gw, w.before args s = true) (hk : am_aux m pc i a b c1 d = true) (hd : decode (am_by m) pc = .ok (i, am_ln i)) (h : am_cst i a = some v)
    (kk : W p l e R s mi args below meth c H locs cells slots Q (F0 mi (pc + am_ln i) lc (am_cv B S v :: rest))) : W p l e R s mi args below meth c H locs cells slots Q (F0 mi pc lc rest) := by
  unfold am_cst at h
  split at h
  · cases h; simp only [am_aux, decide_eq_true_eq] at hk
    exact lv_iconst hx hb hd (by rw [hk.1]) kk
  · cases h; simp only [am_aux, decide_eq_true_eq] at hk
    exact lv_bipush hx hb hd (by rw [← hk.1]; exact am_bip (by omega) (by omega)) kk
  · cases h; simp only [am_aux, decide_eq_true_eq] at hk
    exact lv_sipush hx hb hd (by rw [← hk.1]; exact am_sip (by omega) (by omega)) kk
  · cases h; simp only [am_aux, decide_eq_true_eq] at hk
    exact lv_ldc hx hb hown (hts _ (am_g (am_CI_ok _ hk.1) rfl)) hd kk
  · cases h; simp only [am_aux, decide_eq_true_eq] at hk
    exact lv_ldcw hx hb hown (hts _ (am_g (am_CI_ok _ hk.1) rfl)) hd kk
  · cases h; simp only [am_aux, decide_eq_true_eq] at hk
    refine lv_lconst hx hb hd ?_ kk
    rw [hk, Int64.ofInt_eq_ofNat]
  · cases h; simp only [am_aux, decide_eq_true_eq] at hk
    exact lv_ldc2 hx hb hown (hts _ (am_g (am_CJ_ok _ hk.1) rfl)) hd kk
  · cases h
theorem am_simsto {q : List AV × List AV} (hx : p.tables.exec = Jvm.exec) (hb : c.code = am_by m) (hl : lv_has lc (am_ml m) (am_lv B S 0 ls)) (hln : ls.length = am_ml m) (hd : decode (am_by m) pc = .ok (i, am_ln i)) (h : am_sto i ls st = some q)
    (kk : ∀ lc' : Array Slot, lv_has lc' (am_ml m) (am_lv B S 0 q.1) → W p l e R s mi args below meth c H locs cells slots Q (F0 mi (pc + am_ln i) lc' (q.2.map (am_cv B S)))) : W p l e R s mi args below meth c H locs cells slots Q (F0 mi pc lc (st.map (am_cv B S))) := by
  unfold am_sto at h
  split at h
  · unfold am_sI at h
    split at h
    · unfold am_s1 at h
      split at h
      · rename_i hc
        cases h
        exact lv_istore_n hx hb hd rfl hl (by omega) rfl (fun lc' h' => kk lc' (am_st1 rfl hc.1 hc.2 h'))
      · cases h
    · cases h
  · unfold am_sI at h
    split at h
    · unfold am_s1 at h
      split at h
      · rename_i hc
        cases h
        exact lv_istore hx hb hd hl (by omega) rfl (fun lc' h' => kk lc' (am_st1 rfl hc.1 hc.2 h'))
      · cases h
    · cases h
  · unfold am_sR at h
    split at h
    · unfold am_s1 at h
      split at h
      · rename_i hc
        cases h
        exact lv_astore_n hx hb hd rfl hl (by omega) rfl (fun lc' h' => kk lc' (am_st1 rfl hc.1 hc.2 h'))
      · cases h
    · cases h
  · unfold am_sR at h
    split at h
    · unfold am_s1 at h
      split at h
      · rename_i hc
        cases h
        exact lv_astore hx hb hd hl (by omega) rfl (fun lc' h' => kk lc' (am_st1 rfl hc.1 hc.2 h'))
      · cases h
    · cases h
  · unfold am_sL at h
    split at h
    · unfold am_s2 at h
      split at h
      · rename_i hc
        cases h
        exact lv_lstore_n hx hb hd rfl hl (by omega) rfl (fun lc' h' => kk lc' (am_st2 rfl hc.1 hc.2 h'))
      · cases h
    · cases h
  · unfold am_sL at h
    split at h
    · unfold am_s2 at h
      split at h
      · rename_i hc
        cases h
        exact lv_lstore hx hb hd hl (by omega) rfl (fun lc' h' => kk lc' (am_st2 rfl hc.1 hc.2 h'))
      · cases h
    · cases h
  · rename_i k n
    unfold am_sN at h
    split at h
    · rename_i x hn
      split at h
      · unfold am_s1 at h
        split at h
        · rename_i hc
          cases h
          have hm : (0 + k, am_cv B S (am_nth ls k)) ∈ am_lv B S 0 ls := am_lv_in (by rw [hn]; rfl)
          rw [Nat.zero_add, hn] at hm
          obtain ⟨j, hj⟩ := List.getElem?_of_mem hm
          exact lv_iinc hx hb hd hl hj (v := Int32.ofInt (x + n)) (by rw [Int32.ofInt_add]) (by omega) rfl (fun lc' h' => kk lc' (am_st1 rfl hc.1 hc.2 h'))
        · cases h
      · cases h
    · cases h
  · cases h
theorem am_simop {q : List AV} (hx : p.tables.exec = Jvm.exec) (hb : c.code = am_by m) (hs : am_okL st) (hd : decode (am_by m) pc = .ok (i, am_ln i)) (h : am_op i st = some q)
    (kk : W p l e R s mi args below meth c H locs cells slots Q (F0 mi (pc + am_ln i) lc (q.map (am_cv B S)))) : W p l e R s mi args below meth c H locs cells slots Q (F0 mi pc lc (st.map (am_cv B S))) := by
  unfold am_op at h
  split at h
  · obtain ⟨x, y, t, rfl, h2⟩ := am_i2eq h
    unfold am_ri at h2
    split at h2
    · cases h2
      exact lv_iadd hx hb hd (by rw [← Int32.ofInt_add]; exact kk)
    · cases h2
  · obtain ⟨x, y, t, rfl, h2⟩ := am_i2eq h
    unfold am_ri at h2
    split at h2
    · cases h2
      exact lv_isub hx hb hd (by rw [← Int32.ofInt_sub]; exact kk)
    · cases h2
  · obtain ⟨x, y, t, rfl, h2⟩ := am_i2eq h
    unfold am_ri at h2
    split at h2
    · cases h2
      exact lv_imul hx hb hd (by rw [← Int32.ofInt_mul]; exact kk)
    · cases h2
  · obtain ⟨x, y, t, rfl, h2⟩ := am_i2eq h
    have hy : inI y := (am_okL_cons.mp hs).1
    have hx1 : inI x := (am_okL_cons.mp (am_okL_cons.mp hs).2).1
    clear h
    have h := h2
    split at h
    · rename_i hc
      cases h
      refine lv_idiv hx hb hd (fun z => ?_) (by rw [am_divI hx1 hy hc.1 hc.2]; exact kk)
      have := (am_eqI (y := 0) hy ⟨by omega, by omega⟩).mp z
      omega
    · cases h
  · obtain ⟨x, y, t, rfl, h2⟩ := am_i2eq h
    have hy : inI y := (am_okL_cons.mp hs).1
    have hx1 : inI x := (am_okL_cons.mp (am_okL_cons.mp hs).2).1
    clear h
    have h := h2
    split at h
    · rename_i hc
      cases h
      refine lv_irem hx hb hd (fun z => ?_) (by rw [am_remI hx1 hy hc.1 hc.2]; exact kk)
      have := (am_eqI (y := 0) hy ⟨by omega, by omega⟩).mp z
      omega
    · cases h
  · obtain ⟨x, y, t, rfl, h2⟩ := am_i2eq h
    cases h2
    refine lv_iand hx hb hd ?_
    have e : am_cv B S (Sum.inl (am_and x y)) = .int (Int32.ofInt x &&& Int32.ofInt y) := by show Value.int (Int32.ofInt (am_and x y)) = _; unfold am_and; rw [Int32.ofInt_toInt]
    rw [← e]; exact kk
  · obtain ⟨x, y, t, rfl, h2⟩ := am_i2eq h
    cases h2
    refine lv_ior hx hb hd ?_
    have e : am_cv B S (Sum.inl (am_or x y)) = .int (Int32.ofInt x ||| Int32.ofInt y) := by show Value.int (Int32.ofInt (am_or x y)) = _; unfold am_or; rw [Int32.ofInt_toInt]
    rw [← e]; exact kk
  · obtain ⟨x, y, t, rfl, h2⟩ := am_i2eq h
    cases h2
    refine lv_ixor hx hb hd ?_
    have e : am_cv B S (Sum.inl (am_xor x y)) = .int (Int32.ofInt x ^^^ Int32.ofInt y) := by show Value.int (Int32.ofInt (am_xor x y)) = _; unfold am_xor; rw [Int32.ofInt_toInt]
    rw [← e]; exact kk
  · obtain ⟨x, y, t, rfl, h2⟩ := am_i2eq h
    cases h2
    refine lv_ishl hx hb hd ?_
    have e : am_cv B S (Sum.inl (am_shl x y)) = .int (Int32.ofInt x <<< (Int32.ofInt y &&& 31)) := by show Value.int (Int32.ofInt (am_shl x y)) = _; unfold am_shl; rw [Int32.ofInt_toInt]
    rw [← e]; exact kk
  · obtain ⟨x, y, t, rfl, h2⟩ := am_i2eq h
    cases h2
    refine lv_ishr hx hb hd ?_
    have e : am_cv B S (Sum.inl (am_shr x y)) = .int (Int32.ofInt x >>> (Int32.ofInt y &&& 31)) := by show Value.int (Int32.ofInt (am_shr x y)) = _; unfold am_shr; rw [Int32.ofInt_toInt]
    rw [← e]; exact kk
  · obtain ⟨x, y, t, rfl, h2⟩ := am_i2eq h
    cases h2
    refine lv_iushr (v := Int32.ofInt (am_ush x y)) hx hb hd ?_ kk
    unfold am_ush; rw [Int32.ofInt_toInt]
  · obtain ⟨x, y, t, rfl, h2⟩ := am_l2eq h
    cases h2
    refine lv_ladd hx hb hd ?_
    have e : am_cv B S (Sum.inr (Sum.inl (am_wl (x + y)))) = .long (Int64.ofInt x + Int64.ofInt y) := by show Value.long (Int64.ofInt (am_wl (x + y))) = _; unfold am_wl; rw [Int64.ofInt_toInt, Int64.ofInt_add]
    rw [← e]; exact kk
  · obtain ⟨x, y, t, rfl, h2⟩ := am_l2eq h
    cases h2
    refine lv_lmul hx hb hd ?_
    have e : am_cv B S (Sum.inr (Sum.inl (am_wl (x * y)))) = .long (Int64.ofInt x * Int64.ofInt y) := by show Value.long (Int64.ofInt (am_wl (x * y))) = _; unfold am_wl; rw [Int64.ofInt_toInt, Int64.ofInt_mul]
    rw [← e]; exact kk
  · obtain ⟨x, y, t, rfl, h2⟩ := am_l2eq h
    cases h2
    have hy : inL y := (am_okL_cons.mp hs).1
    have hx1 : inL x := (am_okL_cons.mp (am_okL_cons.mp hs).2).1
    refine W.lcmp hx hb hd ?_
    rw [am_cmpL hx1 hy]; exact kk
  · obtain ⟨x, t, rfl, h2⟩ := am_i1eq h
    cases h2
    exact lv_i2l hx hb hd (am_i2lv (am_okL_cons.mp hs).1) kk
  · obtain ⟨x, t, rfl, h2⟩ := am_l1eq h
    cases h2
    exact lv_l2i hx hb hd (am_l2iv x) kk
  · obtain ⟨x, t, rfl, h2⟩ := am_i1eq h
    cases h2
    refine lv_i2b (v := Int32.ofInt (am_i2b x)) hx hb hd ?_ kk
    unfold am_i2b; rw [Int32.ofInt_toInt]
  · obtain ⟨x, t, rfl, h2⟩ := am_i1eq h
    cases h2
    refine lv_i2s (v := Int32.ofInt (am_i2s x)) hx hb hd ?_ kk
    unfold am_i2s; rw [Int32.ofInt_toInt]
  · obtain ⟨v, t, rfl, hv, h2⟩ := am_v1eq h
    cases h2
    exact lv_dup hx hb hd (by rw [am_cat, hv]; rfl) kk
  · obtain ⟨v, t, rfl, hv, h2⟩ := am_v1eq h
    obtain ⟨w, t, rfl, hw, h3⟩ := am_v1eq h2
    cases h3
    exact lv_dup2_11 hx hb hd (by rw [am_cat, hv]; rfl) (by rw [am_cat, hw]; rfl) kk
  · obtain ⟨v, t, rfl, hv, h2⟩ := am_v1eq h
    cases h2
    exact lv_pop hx hb hd (by rw [am_cat, hv]; rfl) kk
  · cases h
theorem am_simbr {len : Nat} {q : Nat × List AV} (hx : p.tables.exec = Jvm.exec) (hb : c.code = am_by m) (hs : am_okL st) (hk : am_aux m pc i a b c1 d = true) (hd : decode (am_by m) pc = .ok (i, len)) (hln : len = am_ln i ∨ am_ln i = 0) (h : am_br i a pc st = some q)
    (kk : W p l e R s mi args below meth c H locs cells slots Q (F0 mi q.1 lc (q.2.map (am_cv B S)))) : W p l e R s mi args below meth c H locs cells slots Q (F0 mi pc lc (st.map (am_cv B S))) := by
  have i0 : inI 0 := ⟨by omega, by omega⟩
  unfold am_br at h
  split at h
  · cases h
    simp only [am_aux, decide_eq_true_eq] at hk
    have hl : len = 3 := hln.elim id (fun h => absurd (show 3 = 0 from h) (by decide))
    subst hl
    exact lv_goto hx hb hd (by omega) kk
  · rename_i cc off
    obtain ⟨x, t, rfl, rfl⟩ := am_b1eq h
    simp only [am_aux, decide_eq_true_eq] at hk
    have hl : len = 3 := hln.elim id (fun h => absurd (show 3 = 0 from h) (by decide))
    subst hl
    have hx1 : inI x := (am_okL_cons.mp hs).1
    have ht : (pc : Int) + off = (a.toNat : Int) := by omega
    cases cc
    · refine lv_if_eq hx hb hd ht (fun z => ?_) (fun z => ?_)
      · have := (am_eqI hx1 i0).mp z
        simp only [am_cb, this, decide_true, if_true] at kk; exact kk
      · have : ¬ x = 0 := fun y => z ((am_eqI hx1 i0).mpr y)
        simp only [am_cb, this, decide_false] at kk; exact kk
    · refine lv_if_ne hx hb hd ht (fun z => ?_) (fun z => ?_)
      · have : x ≠ 0 := fun y => z ((am_eqI hx1 i0).mpr y)
        simp only [am_cb, ne_eq, this, not_false_eq_true, decide_true, if_true] at kk; exact kk
      · have : ¬ x ≠ 0 := fun y => y ((am_eqI hx1 i0).mp z)
        simp only [am_cb, this, decide_false] at kk; exact kk
    · refine lv_if_lt hx hb hd ht (fun z => ?_) (fun z => ?_)
      · have := (am_ltI hx1 i0).mp z
        simp only [am_cb, this, decide_true, if_true] at kk; exact kk
      · have : ¬ x < 0 := fun y => z ((am_ltI hx1 i0).mpr y)
        simp only [am_cb, this, decide_false] at kk; exact kk
    · refine lv_if_ge hx hb hd ht (fun z => ?_) (fun z => ?_)
      · have := (am_leI i0 hx1).mp z
        simp only [am_cb, this, decide_true, if_true] at kk; exact kk
      · have : ¬ 0 ≤ x := fun y => z ((am_leI i0 hx1).mpr y)
        simp only [am_cb, this, decide_false] at kk; exact kk
    · refine lv_if_gt hx hb hd ht (fun z => ?_) (fun z => ?_)
      · have := (am_ltI i0 hx1).mp z
        simp only [am_cb, this, decide_true, if_true] at kk; exact kk
      · have : ¬ 0 < x := fun y => z ((am_ltI i0 hx1).mpr y)
        simp only [am_cb, this, decide_false] at kk; exact kk
    · refine lv_if_le hx hb hd ht (fun z => ?_) (fun z => ?_)
      · have := (am_leI hx1 i0).mp z
        simp only [am_cb, this, decide_true, if_true] at kk; exact kk
      · have : ¬ x ≤ 0 := fun y => z ((am_leI hx1 i0).mpr y)
        simp only [am_cb, this, decide_false] at kk; exact kk
  · rename_i cc off
    obtain ⟨x, y, t, rfl, rfl⟩ := am_b2eq h
    simp only [am_aux, decide_eq_true_eq] at hk
    have hl : len = 3 := hln.elim id (fun h => absurd (show 3 = 0 from h) (by decide))
    subst hl
    have hy1 : inI y := (am_okL_cons.mp hs).1
    have hx1 : inI x := (am_okL_cons.mp (am_okL_cons.mp hs).2).1
    have ht : (pc : Int) + off = (a.toNat : Int) := by omega
    cases cc
    · refine lv_icmp_eq hx hb hd ht (fun z => ?_) (fun z => ?_)
      · have := (am_eqI hx1 hy1).mp z
        simp only [am_cb, this, decide_true, if_true] at kk; exact kk
      · have : ¬ x = y := fun y => z ((am_eqI hx1 hy1).mpr y)
        simp only [am_cb, this, decide_false] at kk; exact kk
    · refine lv_icmp_ne hx hb hd ht (fun z => ?_) (fun z => ?_)
      · have : x ≠ y := fun y => z ((am_eqI hx1 hy1).mpr y)
        simp only [am_cb, ne_eq, this, not_false_eq_true, decide_true, if_true] at kk; exact kk
      · have : ¬ x ≠ y := fun y => y ((am_eqI hx1 hy1).mp z)
        simp only [am_cb, this, decide_false] at kk; exact kk
    · refine lv_icmp_lt hx hb hd ht (fun z => ?_) (fun z => ?_)
      · have := (am_ltI hx1 hy1).mp z
        simp only [am_cb, this, decide_true, if_true] at kk; exact kk
      · have : ¬ x < y := fun y => z ((am_ltI hx1 hy1).mpr y)
        simp only [am_cb, this, decide_false] at kk; exact kk
    · refine lv_icmp_ge hx hb hd ht (fun z => ?_) (fun z => ?_)
      · have := (am_leI hy1 hx1).mp z
        simp only [am_cb, this, decide_true, if_true] at kk; exact kk
      · have : ¬ y ≤ x := fun y => z ((am_leI hy1 hx1).mpr y)
        simp only [am_cb, this, decide_false] at kk; exact kk
    · refine lv_icmp_gt hx hb hd ht (fun z => ?_) (fun z => ?_)
      · have := (am_ltI hy1 hx1).mp z
        simp only [am_cb, this, decide_true, if_true] at kk; exact kk
      · have : ¬ y < x := fun y => z ((am_ltI hy1 hx1).mpr y)
        simp only [am_cb, this, decide_false] at kk; exact kk
    · refine lv_icmp_le hx hb hd ht (fun z => ?_) (fun z => ?_)
      · have := (am_leI hx1 hy1).mp z
        simp only [am_cb, this, decide_true, if_true] at kk; exact kk
      · have : ¬ x ≤ y := fun y => z ((am_leI hx1 hy1).mpr y)
        simp only [am_cb, this, decide_false] at kk; exact kk
  · rename_i dd lo hi os
    obtain ⟨x, t, rfl, rfl⟩ := am_b1eq h
    simp only [am_aux, decide_eq_true_eq] at hk
    have hx1 : inI x := (am_okL_cons.mp hs).1
    have hxi := am_toI hx1
    by_cases hc : x < lo ∨ hi < x
    · simp only [if_pos hc] at kk
      exact lv_tableOut hx hb hd (by rw [hxi]; exact hc) (by omega) kk
    · simp only [if_neg hc] at kk
      have hlt : (x - lo).toNat < os.size := by omega
      have hg : os[(x - lo).toNat]? = some (os.getD (x - lo).toNat 0) := by
        rw [Array.getD_eq_getD_getElem?, Array.getElem?_eq_getElem hlt]; rfl
      have hm := hk.2.2 (os.getD (x - lo).toNat 0) (by rw [Array.mem_toList_iff]; exact Array.mem_of_getElem? hg)
      exact lv_tableIn hx hb hd (by rw [hxi]; omega) (by rw [hxi]; omega) (by rw [hxi]; exact hg) (by omega) kk
  · rename_i dd ps
    obtain ⟨x, t, rfl, rfl⟩ := am_b1eq h
    simp only [am_aux, Bool.and_eq_true, decide_eq_true_eq] at hk
    have hx1 : inI x := (am_okL_cons.mp hs).1
    have hxi := am_toI hx1
    have ho : 0 ≤ (pc : Int) + Op.lookupswitch.offset ps.toList dd x := am_lko _ _ _ _ hk.2.1 hk.2.2
    exact lv_lookup hx hb hd hk.1 (by rw [hxi]) (by omega) kk
  · cases h
end AMS
