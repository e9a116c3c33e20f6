/-! SIMULATION: fields, arrays, the library's own -/
theorem am_fslen {B S : Nat} {g r : GI} {k : Nat} {i : Int} : (am_fs B S g r k i).length = am_nf k := by
  unfold am_fs; rw [List.length_map, List.length_range]
theorem am_fsat {B S : Nat} {g r : GI} {k : Nat} {i : Int} {j : Nat} (h : j < am_nf k) : (am_fs B S g r k i)[j]? = some (am_fv B S g r k i (j : Int)) := by
  unfold am_fs
  rw [List.getElem?_map, List.getElem?_range h]
  rfl
theorem am_fssetg {B S : Nat} {g r : GI} {k : Nat} {i : Int} {f : Nat} {x : Int} (hf : f < am_nf k) (ht : am_ft k (f : Int) ≠ 2) : (am_fs B S g r k i).set f (.int (Int32.ofInt x)) = am_fs B S (gset g k i (f : Int) x) r k i := by
  apply List.ext_getElem?
  intro j
  by_cases hj : j < am_nf k
  · rw [am_fsat hj]
    by_cases e : j = f
    · subst e
      rw [List.getElem?_set_self (by rw [am_fslen]; exact hj)]
      unfold am_fv
      rw [if_neg ht]
      simp [gset]
    · rw [List.getElem?_set_ne (fun z => e z.symm), am_fsat hj]
      unfold am_fv
      have : gset g k i (f : Int) x k i (j : Int) = g k i (j : Int) := by
        unfold gset
        rw [if_neg (by intro z; exact e (by omega))]
      rw [this]
  · rw [List.getElem?_eq_none (by rw [List.length_set, am_fslen]; omega), List.getElem?_eq_none (by rw [am_fslen]; omega)]
theorem am_fssetr {B S : Nat} {g r : GI} {k : Nat} {i : Int} {f : Nat} {x : Int} (hf : f < am_nf k) (ht : am_ft k (f : Int) = 2) (hx : 0 ≤ x) : (am_fs B S g r k i).set f (.ref (am_ad B S (am_tk k (f : Int)) x)) = am_fs B S g (gset r k i (f : Int) x) k i := by
  apply List.ext_getElem?
  intro j
  by_cases hj : j < am_nf k
  · rw [am_fsat hj]
    by_cases e : j = f
    · subst e
      rw [List.getElem?_set_self (by rw [am_fslen]; exact hj)]
      unfold am_fv
      rw [if_pos ht]
      have : gset r k i (j : Int) x k i (j : Int) = x := by simp [gset]
      rw [this, if_neg (by omega)]
    · rw [List.getElem?_set_ne (fun z => e z.symm), am_fsat hj]
      unfold am_fv
      have : gset r k i (f : Int) x k i (j : Int) = r k i (j : Int) := by
        unfold gset
        rw [if_neg (by intro z; exact e (by omega))]
      rw [this]
  · rw [List.getElem?_eq_none (by rw [List.length_set, am_fslen]; omega), List.getElem?_eq_none (by rw [am_fslen]; omega)]
theorem am_acyk : ∀ k, k < 34 → (am_ak k = 1 → am_acy k = 0) ∧ (am_ak k = 2 → am_acy k = 1) ∧ (am_ak k = 3 → (k = 14 ∧ am_acy k = 2 ∧ am_tk k 0 = 2) ∨ (k = 15 ∧ am_acy k = 3 ∧ am_tk k 0 = 4) ∨ (k = 16 ∧ am_acy k = 4 ∧ am_tk k 0 = 3)) ∧ am_ak k ≤ 3 := by decide +kernel
theorem am_alrange (k : Nat) (i : Int) : 0 ≤ am_al k i ∧ am_al k i ≤ 400 := by
  unfold am_al
  repeat' (first | (constructor <;> (split <;> omega)) | (constructor <;> omega) | (cases Nat.ble _ _ <;> simp only [cond_true, cond_false]))
theorem am_wdeq (B S : Nat) : ∀ (t : List AV), ((t.map (am_cv B S)).map fun v => v.category).sum = am_wd t
  | [] => rfl
  | v :: t => by
    rw [List.map_cons, List.map_cons, List.sum_cons, am_wdeq B S t, am_cat]
    rfl
theorem am_okSeq {N k : Nat} {i : Int} (h : am_okS N k i = true) : am_okA N k i = true ∨ (k = 34 ∧ i = 0) := by
  unfold am_okS at h
  simp only [Bool.or_eq_true, Bool.and_eq_true, decide_eq_true_eq] at h
  rcases h with h | h
  · exact Or.inl h
  · exact Or.inr ⟨Nat.eq_of_beq_eq_true h.1, h.2⟩
theorem am_gcpyne {g : GI} {k1 : Nat} {i1 p1 : Int} {k2 : Nat} {i2 p2 n : Int} {k' : Nat} {i' : Int} (h : ¬ (k' = k2 ∧ i' = i2)) : gcpy g k1 i1 p1 k2 i2 p2 n k' i' = g k' i' := by
  funext s'
  unfold gcpy
  rw [if_neg (fun z => h ⟨z.1, z.2.1⟩)]
section AMH2
variable {p : Program} {l : Launch} {e : Env} {R : Room} {s : State} {mi : MethodId} {args : Array Value} {below : List Frame} {meth : Method} {c : Code} {H : Heap} {locs : List Loc} {cells slots : Nat} {Q : State → Prop}
variable {B S m pc L : Nat} {lc : Array Slot} {ls st : List AV} {i : Instr} {a : Int} {b c1 d N : Nat} {g r : GI} {cy : Nat → ClassId} {D : va_G} {xs : Nat → Int32} {H0 : Heap}
set_option maxHeartbeats 4000000 in
theorem am_simhp {q : List AV × GI × GI} (hx : p.tables.exec = Jvm.exec) (hb : c.code = am_by m) (hml : c.maxLocals = lc.size) (hts : ∀ w ∈ am_gw, w.before args s = true) (hown : s.vm.findClass (am_cn (am_oc m)) = some mi.cls) (hini : am_mk m = 2 → meth.name = "<init>") (hKx : am_Kx cy D s)
    (hfr : am_fr m ≤ R.frames) (hlo : am_lo m ≤ R.locals) (hce : cells ≤ R.cells) (hsl : slots ≤ R.slots) (hHP : am_HP cy D B S L xs g r N H) (hS : va_S (fun q => B ≤ q) H0 H locs) (hX : va_X S L xs s H0) (hSB : S < B) (hB0 : B ≤ H0.size) (hs : am_okL st)
    (hk : am_aux m pc i a b c1 d = true) (hd : decode (am_by m) pc = .ok (i, am_ln i)) (h : am_hp i a b d g r N st = some q)
    (kk : ∀ (H1 : Heap) (locs1 : List Loc), am_HP cy D B S L xs q.2.1 q.2.2 N H1 → va_S (fun q => B ≤ q) H0 H1 locs1 → W p l e R s mi args below meth c H1 locs1 cells slots Q (F0 mi (pc + am_ln i) lc (q.1.map (am_cv B S)))) : W p l e R s mi args below meth c H locs cells slots Q (F0 mi pc lc (st.map (am_cv B S))) := by
  have hK := hKx.1
  obtain ⟨hP, hsz, hN, hG, hsc⟩ := id hHP
  unfold am_hp at h
  split at h
  · rename_i x
    unfold am_getf at h
    split at h
    · rename_i k ii t
      split at h
      · rename_i hc
        obtain ⟨hkb, hk9, hok⟩ := hc
        subst hkb
        simp only [am_aux, decide_eq_true_eq] at hk
        obtain ⟨hfl, ha0, -, hnf⟩ := hk
        have hcast : ((a.toNat : Nat) : Int) = a := by omega
        have hin : ∀ w ∈ u_ws (am_cn k) (am_TT k) (am_nf k), w ∈ am_gw := fun w hw => am_g (am_fw k hk9 w hw) (by
          obtain ⟨j, -, rfl⟩ := List.mem_map.mp hw
          unfold u_lay
          split <;> rfl)
        have he : (am_ws cy B S g r N)[am_off k ii]? = some (am_ad B S k ii, .inr (k, am_fs B S g r k ii)) := by
          rw [am_wsA hok]; unfold am_en; rw [if_pos (am_akob k hk9)]
        have hdec : (am_TT k a.toNat).1 = am_cn k := by
          have : ∀ k, k < 9 → ∀ f, f < am_nf k → (am_TT k f).1 = am_cn k := by decide +kernel
          exact this k hk9 _ hnf
        have hgo : ∀ v, am_fv B S g r k ii a = v → W p l e R s mi args below meth c H locs cells slots Q (F0 mi (pc + 3) lc (v :: t.map (am_cv B S))) → W p l e R s mi args below meth c H locs cells slots Q (F0 mi pc lc ((Sum.inr (Sum.inr (Sum.inl (k, ii))) :: t).map (am_cv B S))) := by
          intro v hv k2
          refine va_get (v := v) (ci := k) (C := am_cn k) (T := am_TT k) (N := am_nf k) hx hb hts hin hown hK hP (am_off k ii) he (am_cl k hk9) a.toNat hnf (ref := am_cn k) (hts _ (am_g (am_FL_ok _ hfl) rfl)) (fun y hy => ?_) ?_ hd k2
          · rw [hdec] at hy; exact hy
          · rw [am_fsat hnf, hcast, hv]
        split at h
        · rename_i hft
          split at h
          · rename_i hr0
            cases h
            refine hgo _ rfl ?_
            have : am_fv B S g r k ii a = am_cv B S (vR (am_tk k a) (r k ii a)) := by
              unfold am_fv
              rw [if_pos hft, if_neg (by omega)]
              rfl
            rw [this]
            exact kk H locs hHP hS
          · cases h
        · rename_i hft
          cases h
          refine hgo _ rfl ?_
          have : am_fv B S g r k ii a = am_cv B S (vI (g k ii a)) := by
            unfold am_fv
            rw [if_neg hft]
            rfl
          rw [this]
          exact kk H locs hHP hS
      · cases h
    · cases h
  · rename_i x
    unfold am_putf at h
    split at h
    · rename_i z k ii t
      split at h
      · rename_i hc
        obtain ⟨hkb, hk9, hok, hty⟩ := hc
        subst hkb
        cases h
        simp only [am_aux, decide_eq_true_eq] at hk
        obtain ⟨hfl, ha0, -, hnf, hfin⟩ := hk
        have hcast : ((a.toNat : Nat) : Int) = a := by omega
        have hft := am_ftty k hk9 a.toNat hnf
        rw [hcast] at hft
        have hz : inI z := (am_okL_cons.mp hs).1
        have hn2 : narrow (am_ty k a.toNat) (.int (Int32.ofInt z)) = .int (Int32.ofInt z) ∧ fits (am_ty k a.toNat) (.int (Int32.ofInt z)) = true := by
          rcases hty with h0 | ⟨h1, h2⟩
          · rw [hft.1 h0]; exact ⟨rfl, rfl⟩
          · rw [hft.2.1 h1]
            rcases h2 with rfl | rfl
            · exact ⟨rfl, rfl⟩
            · exact ⟨rfl, rfl⟩
        refine am_Wput (k := k) (i := ii) (v := .int (Int32.ofInt z)) hx hb hts hown hini hK hP hS hk9 hok hnf hfl hfin hn2.1 hn2.2 hd (fun H1 locs1 hP1 hS1 hz1 => kk H1 locs1 ⟨?_, ?_, hN, am_gsetok hG (am_inIL hz) (fun _ => hz), am_scset (by omega) hsc⟩ hS1)
        · have e1 : (am_fs B S g r k ii).set a.toNat (.int (Int32.ofInt z)) = am_fs B S (gset g k ii a z) r k ii := by
            have := am_fssetg (B := B) (S := S) (g := g) (r := r) (i := ii) (x := z) hnf (by rw [hcast]; rcases hty with h0 | h1 <;> omega)
            rwa [hcast] at this
          rw [e1] at hP1
          have e2 : am_en cy B S (gset g k ii a z) r k ii = .inr (k, am_fs B S (gset g k ii a z) r k ii) := by unfold am_en; rw [if_pos (am_akob k hk9)]
          rw [← e2, am_wsset hN hok (fun k' i' hne => ⟨am_gsetne hne, rfl⟩)] at hP1
          exact hP1
        · intro hl; rw [hz1]; exact hsz hl
      · cases h
    · rename_i k2 i2 k ii t
      split at h
      · rename_i hc
        obtain ⟨hkb, hk9, hok, hty, htk, hok2⟩ := hc
        subst hkb
        cases h
        simp only [am_aux, decide_eq_true_eq] at hk
        obtain ⟨hfl, ha0, -, hnf, hfin⟩ := hk
        have hcast : ((a.toNat : Nat) : Int) = a := by omega
        have hft := am_ftty k hk9 a.toNat hnf
        rw [hcast] at hft
        have hn2 := am_fitR (hft.2.2.1 hty) (am_ad B S k2 i2)
        refine am_Wput (k := k) (i := ii) (v := .ref (am_ad B S k2 i2)) hx hb hts hown hini hK hP hS hk9 hok hnf hfl hfin hn2.1 hn2.2 hd (fun H1 locs1 hP1 hS1 hz1 => kk H1 locs1 ⟨?_, ?_, hN, hG, hsc⟩ hS1)
        · have e1 : (am_fs B S g r k ii).set a.toNat (.ref (am_ad B S k2 i2)) = am_fs B S g (gset r k ii a i2) k ii := by
            have := am_fssetr (B := B) (S := S) (g := g) (r := r) (i := ii) (x := i2) hnf (by rw [hcast]; exact hty) (am_okAeq hok2).2.1
            rw [hcast, htk] at this
            exact this
          rw [e1] at hP1
          have e2 : am_en cy B S g (gset r k ii a i2) k ii = .inr (k, am_fs B S g (gset r k ii a i2) k ii) := by unfold am_en; rw [if_pos (am_akob k hk9)]
          rw [← e2, am_wsset hN hok (fun k' i' hne => ⟨rfl, am_gsetne hne⟩)] at hP1
          exact hP1
        · intro hl; rw [hz1]; exact hsz hl
      · cases h
    · cases h
  · unfold am_ald at h
    split at h
    · rename_i j k ii t
      split at h
      · rename_i hc
        obtain ⟨hok, hak, hj0, hj1⟩ := hc
        cases h
        have hj : inI j := (am_okL_cons.mp hs).1
        have hcast : ((j.toNat : Nat) : Int) = j := by omega
        rcases am_okSeq hok with hA | ⟨rfl, rfl⟩
        · obtain ⟨hk34, -⟩ := am_okAeq hA
          have hln : am_len g k ii = am_al k ii := by unfold am_len; rw [if_neg (by omega)]
          rw [hln] at hj1
          have he : (am_ws cy B S g r N)[am_off k ii]? = some (am_ad B S k ii, .inl (cy 0, (am_al k ii).toNat, .inl (fun (y : Nat) => Int32.ofInt (g k ii (y : Int))))) := by
            rw [am_wsA hA]; unfold am_en; rw [if_neg (by omega), if_pos hak, ((am_acyk k hk34).1 hak)]
          have hin : vp_in (Int32.ofInt j) (am_al k ii).toNat := am_inN hj hj0 (by have := (am_alrange k ii).1; omega)
          refine va_iald hx hb hK hP (am_off k ii) 0 he rfl hin hd ?_
          rw [am_clI hj hj0, hcast]
          exact kk H locs hHP hS
        · have hL : am_len g 34 0 = (L : Int) := hsc.1
          rw [hL] at hj1
          refine va_sld hx hb hX (by omega) (show ¬ B ≤ S by omega) hS (i := Int32.ofInt j) (am_inN hj hj0 hj1) hd ?_
          rw [am_clI hj hj0, ← hsc.2 j.toNat (by omega), hcast]
          exact kk H locs hHP hS
      · cases h
    · cases h
  · unfold am_ald at h
    split at h
    · rename_i j k ii t
      split at h
      · rename_i hc
        obtain ⟨hok, hak, hj0, hj1⟩ := hc
        cases h
        have hj : inI j := (am_okL_cons.mp hs).1
        have hcast : ((j.toNat : Nat) : Int) = j := by omega
        rcases am_okSeq hok with hA | ⟨rfl, rfl⟩
        · obtain ⟨hk34, -⟩ := am_okAeq hA
          have hln : am_len g k ii = am_al k ii := by unfold am_len; rw [if_neg (by omega)]
          rw [hln] at hj1
          have he : (am_ws cy B S g r N)[am_off k ii]? = some (am_ad B S k ii, .inl (cy 1, (am_al k ii).toNat, .inr (.inl (fun (y : Nat) => Int64.ofInt (g k ii (y : Int)))))) := by
            rw [am_wsA hA]; unfold am_en; rw [if_neg (by omega), if_neg (by omega), if_pos hak, ((am_acyk k hk34).2.1 hak)]
          have hin : vp_in (Int32.ofInt j) (am_al k ii).toNat := am_inN hj hj0 (by have := (am_alrange k ii).1; omega)
          refine va_lald hx hb hK hP (am_off k ii) 1 he rfl hin hd ?_
          rw [am_clI hj hj0, hcast]
          exact kk H locs hHP hS
        · exact absurd hak (by decide)
      · cases h
    · cases h
  · unfold am_rld at h
    split at h
    · rename_i j k ii t
      split at h
      · rename_i hc
        obtain ⟨hA, hak, hj0, hj1, hr0⟩ := hc
        cases h
        have hj : inI j := (am_okL_cons.mp hs).1
        have hcast : ((j.toNat : Nat) : Int) = j := by omega
        obtain ⟨hk34, -⟩ := am_okAeq hA
        have hin : vp_in (Int32.ofInt j) (am_al k ii).toNat := am_inN hj hj0 (by have := (am_alrange k ii).1; omega)
        have he : (am_ws cy B S g r N)[am_off k ii]? = some (am_ad B S k ii, .inl (cy (am_acy k), (am_al k ii).toNat, .inr (.inr (.inr (.inr (fun (y : Nat) => if r k ii (y : Int) < 0 then none else some (am_ad B S (am_tk k 0) (r k ii (y : Int))))))))) := by
          rw [am_wsA hA]; unfold am_en; rw [if_neg (by omega), if_neg (by omega), if_neg (by omega)]
        have hfin : W p l e R s mi args below meth c H locs cells slots Q (F0 mi (pc + 1) lc (va_rf ((fun (y : Nat) => if r k ii (y : Int) < 0 then none else some (am_ad B S (am_tk k 0) (r k ii (y : Int)))) (Int32.ofInt j).toNatClampNeg) :: t.map (am_cv B S))) := by
          rw [am_clI hj hj0]
          dsimp only
          rw [hcast, if_neg (by omega)]
          exact kk H locs hHP hS
        rcases (am_acyk k hk34).2.2.1 hak with ⟨-, h2, -⟩ | ⟨-, h2, -⟩ | ⟨-, h2, -⟩
        · rw [h2] at he; exact va_aldq hx hb hK hP (am_off k ii) 2 he rfl hin hd hfin
        · rw [h2] at he; exact va_aldq hx hb hK hP (am_off k ii) 3 he rfl hin hd hfin
        · rw [h2] at he; exact va_aldq hx hb hK hP (am_off k ii) 4 he rfl hin hd hfin
      · cases h
    · cases h
  · unfold am_ast at h
    split at h
    · rename_i z j k ii t
      split at h
      · rename_i hc
        obtain ⟨hA, hak, hj0, hj1⟩ := hc
        cases h
        have hz : inI z := (am_okL_cons.mp hs).1
        have hj : inI j := (am_okL_cons.mp (am_okL_cons.mp hs).2).1
        have hcast : ((j.toNat : Nat) : Int) = j := by omega
        obtain ⟨hk34, -⟩ := am_okAeq hA
        have hin : vp_in (Int32.ofInt j) (am_al k ii).toNat := am_inN hj hj0 (by have := (am_alrange k ii).1; omega)
        have he : (am_ws cy B S g r N)[am_off k ii]? = some (am_ad B S k ii, .inl (cy 0, (am_al k ii).toNat, .inl (fun (y : Nat) => Int32.ofInt (g k ii (y : Int))))) := by
          rw [am_wsA hA]; unfold am_en; rw [if_neg (by omega), if_pos hak, ((am_acyk k hk34).1 hak)]
        refine W.iast hx hb (hP _ _ he) ((hK.2 0 _ rfl).1 _ (fun (y : Nat) => .int (Int32.ofInt (g k ii (y : Int))))) (fun q => by cases q) (by show ¬ (_ ∨ (arrV _ _ _).slots.size ≤ _); rw [arrV_size]; exact hin) rfl rfl hd fun H1 e1 e2 e3 => ?_
        refine kk H1 _ ⟨?_, fun hl => by rw [e2]; exact hsz hl, hN, am_gsetok hG (am_inIL hz) (fun _ => hz), am_scset hk34 hsc⟩ (hS.put e2 e3 (am_wsD.2 _ _ he))
        have e4 : am_en cy B S (gset g k ii j z) r k ii = .inl (cy 0, (am_al k ii).toNat, .inl (fun (y : Nat) => Int32.ofInt (gset g k ii j z k ii (y : Int)))) := by
          unfold am_en; rw [if_neg (by omega), if_pos hak, ((am_acyk k hk34).1 hak)]
        rw [← am_wsset (cy := cy) (B := B) (S := S) (g := g) (r := r) hN hA (fun k' i' hne => ⟨am_gsetne hne, rfl⟩), e4]
        refine hP.set am_wsD he ?_ e3
        show H1[am_ad B S k ii]? = some (vp_cell _ _)
        rw [e1, vp_cell_i, vp_cell_i, arrV_store]
        congr 2
        funext y
        rw [am_clI hj hj0]
        by_cases hy : y = j.toNat
        · subst hy
          simp [updV, gset, hcast]
        · have : ¬ ((y : Int) = j) := by omega
          simp [updV, gset, hy, this]
      · cases h
    · cases h
  · unfold am_lst at h
    split at h
    · rename_i z j k ii t
      split at h
      · rename_i hc
        obtain ⟨hA, hak, hj0, hj1, hNN⟩ := hc
        cases h
        have hz : inL z := (am_okL_cons.mp hs).1
        have hj : inI j := (am_okL_cons.mp (am_okL_cons.mp hs).2).1
        have hcast : ((j.toNat : Nat) : Int) = j := by omega
        obtain ⟨hk34, -⟩ := am_okAeq hA
        have hin : vp_in (Int32.ofInt j) (am_al k ii).toNat := am_inN hj hj0 (by have := (am_alrange k ii).1; omega)
        have he : (am_ws cy B S g r N)[am_off k ii]? = some (am_ad B S k ii, .inl (cy 1, (am_al k ii).toNat, .inr (.inl (fun (y : Nat) => Int64.ofInt (g k ii (y : Int)))))) := by
          rw [am_wsA hA]; unfold am_en; rw [if_neg (by omega), if_neg (by omega), if_pos hak, ((am_acyk k hk34).2.1 hak)]
        refine va_last hx hb hK hP am_wsD hS (am_off k ii) 1 he rfl hin hd (fun H1 locs1 hP1 _ hS1 => kk H1 locs1 ⟨?_, fun hl => absurd hl (by omega), hN, am_gsetok hG hz (fun y => absurd hak y), am_scset hk34 hsc⟩ hS1)
        have e4 : am_en cy B S (gset g k ii j z) r k ii = .inl (cy 1, (am_al k ii).toNat, .inr (.inl (fun (y : Nat) => Int64.ofInt (gset g k ii j z k ii (y : Int))))) := by
          unfold am_en; rw [if_neg (by omega), if_neg (by omega), if_pos hak, ((am_acyk k hk34).2.1 hak)]
        rw [← am_wsset (cy := cy) (B := B) (S := S) (g := g) (r := r) hN hA (fun k' i' hne => ⟨am_gsetne hne, rfl⟩), e4]
        have e5 : vp_updL (fun (y : Nat) => Int64.ofInt (g k ii (y : Int))) (Int32.ofInt j).toNatClampNeg (Int64.ofInt z) = fun (y : Nat) => Int64.ofInt (gset g k ii j z k ii (y : Int)) := by
          funext y
          rw [am_clI hj hj0]
          by_cases hy : y = j.toNat
          · subst hy
            simp [vp_updL, gset, hcast]
          · have : ¬ ((y : Int) = j) := by omega
            simp [vp_updL, gset, hy, this]
        rw [e5] at hP1
        exact hP1
      · cases h
    · cases h
  · unfold am_rst at h
    split at h
    · rename_i k2 i2 j k ii t
      split at h
      · rename_i hc
        obtain ⟨hA, hak, hj0, hj1, htk, hA2⟩ := hc
        cases h
        have hj : inI j := (am_okL_cons.mp (am_okL_cons.mp hs).2).1
        have hcast : ((j.toNat : Nat) : Int) = j := by omega
        obtain ⟨hk34, -⟩ := am_okAeq hA
        have hin : vp_in (Int32.ofInt j) (am_al k ii).toNat := am_inN hj hj0 (by have := (am_alrange k ii).1; omega)
        have hlt : (Int32.ofInt j).toNatClampNeg < (am_al k ii).toNat := Nat.not_le.mp fun q => hin (Or.inr q)
        have h0 : ¬ (Int32.ofInt j) < 0 := fun q => hin (Or.inl q)
        have hi20 := (am_okAeq hA2).2.1
        have he : (am_ws cy B S g r N)[am_off k ii]? = some (am_ad B S k ii, .inl (cy (am_acy k), (am_al k ii).toNat, .inr (.inr (.inr (.inr (fun (y : Nat) => if r k ii (y : Int) < 0 then none else some (am_ad B S (am_tk k 0) (r k ii (y : Int))))))))) := by
          rw [am_wsA hA]; unfold am_en; rw [if_neg (by omega), if_neg (by omega), if_neg (by omega)]
        have hk29 : k2 < 9 := by
          rcases (am_acyk k hk34).2.2.1 hak with ⟨-, -, h3⟩ | ⟨-, -, h3⟩ | ⟨-, -, h3⟩ <;> omega
        have he2 : (am_ws cy B S g r N)[am_off k2 i2]? = some (am_ad B S k2 i2, .inr (k2, am_fs B S g r k2 i2)) := by
          rw [am_wsA hA2]; unfold am_en; rw [if_pos (am_akob k2 hk29)]
        obtain ⟨r', hr', cellV, g1, g2, g3, -⟩ := hP _ _ he2
        have hcls := (hK.1 k2 _ (am_cl k2 hk29)).2
        have hty : ∃ t0 : Nat, (am_tys cy)[t0]? = some (cy (am_acy k), FieldType.object (am_cn k2)) := by
          rcases (am_acyk k hk34).2.2.1 hak with ⟨-, h2, h3⟩ | ⟨-, h2, h3⟩ | ⟨-, h2, h3⟩
          · rw [h2, ← htk, h3]; exact ⟨2, rfl⟩
          · rw [h2, ← htk, h3]; exact ⟨3, rfl⟩
          · rw [h2, ← htk, h3]; exact ⟨4, rfl⟩
        obtain ⟨t0, ht0⟩ := hty
        obtain ⟨kA, comp, f1, f2, f3, -⟩ := (hK.2 t0 _ ht0).2
        have hcomp : comp = D.1 k2 := Option.some.inj (f3.symm.trans hcls.1)
        subst hcomp
        obtain ⟨kC, hkC, -⟩ := hcls.2
        refine W.aast hx hb (hP _ _ he) (fun q h => by cases h) (fun h => by cases h) f1 f2 rfl hkC ⟨h0, by show _ < (arrV _ _ _).slots.size; rw [arrV_size]; exact hlt⟩ g1 (fun q h => by rw [g3] at h; cases h) (by rw [g2]; exact hkC) (by rw [g2]; exact va_assign hcls) rfl rfl hd fun H1 e1 e2 e3 => ?_
        refine kk H1 _ ⟨?_, fun hl => by rw [e2]; exact hsz hl, hN, hG, hsc⟩ (hS.put e2 e3 (am_wsD.2 _ _ he))
        have e4 : am_en cy B S g (gset r k ii j i2) k ii = .inl (cy (am_acy k), (am_al k ii).toNat, .inr (.inr (.inr (.inr (fun (y : Nat) => if gset r k ii j i2 k ii (y : Int) < 0 then none else some (am_ad B S (am_tk k 0) (gset r k ii j i2 k ii (y : Int)))))))) := by
          unfold am_en; rw [if_neg (by omega), if_neg (by omega), if_neg (by omega)]
        rw [← am_wsset (cy := cy) (B := B) (S := S) (g := g) (r := r) hN hA (fun k' i' hne => ⟨rfl, am_gsetne hne⟩), e4]
        refine hP.set am_wsD he ?_ e3
        show H1[am_ad B S k ii]? = some (vp_cell _ _)
        rw [e1, vp_cell_q, vp_cell_q, arrV_store]
        congr 2
        funext y
        rw [am_clI hj hj0]
        by_cases hy : y = j.toNat
        · subst hy
          have h7 : gset r k ii j i2 k ii ((j.toNat : Nat) : Int) = i2 := by simp [gset, hcast]
          rw [h7, if_neg (by omega), htk]
          simp [updV, va_rf]
        · have h8 : ¬ ((y : Int) = j) := by omega
          have h7 : gset r k ii j i2 k ii (y : Int) = r k ii (y : Int) := by simp [gset, h8]
          rw [h7]
          simp [updV, hy]
      · cases h
    · cases h
  · unfold am_aln at h
    split at h
    · rename_i k ii t
      split at h
      · rename_i hc
        obtain ⟨hok, hak⟩ := hc
        cases h
        rcases am_okSeq hok with hA | ⟨rfl, rfl⟩
        · obtain ⟨hk34, -⟩ := am_okAeq hA
          have hln : am_len g k ii = am_al k ii := by unfold am_len; rw [if_neg (by omega)]
          have har := am_alrange k ii
          have he := am_wsA (cy := cy) (B := B) (S := S) (g := g) (r := r) hA
          unfold am_en at he
          rw [if_neg hak] at he
          have hv : Int32.ofNat (am_al k ii).toNat = Int32.ofInt (am_len g k ii) := by
            rw [← Int32.ofInt_eq_ofNat, hln]; congr 1; omega
          have hfin := kk H locs hHP hS
          have h3 := (am_acyk k hk34).2.2.2
          rcases (show am_ak k = 1 ∨ am_ak k = 2 ∨ am_ak k = 3 by omega) with h1 | h1 | h1
          · rw [(am_acyk k hk34).1 h1] at he; exact va_alen hx hb hK hP (am_off k ii) 0 he (ty := .int) rfl hv hd hfin
          · rw [(am_acyk k hk34).2.1 h1] at he; exact va_alen hx hb hK hP (am_off k ii) 1 he (ty := .long) rfl hv hd hfin
          · rcases (am_acyk k hk34).2.2.1 h1 with ⟨-, h2, -⟩ | ⟨-, h2, -⟩ | ⟨-, h2, -⟩
            · rw [h2] at he; exact va_alen hx hb hK hP (am_off k ii) 2 he (ty := .object "WordTerminator$Rule") rfl hv hd hfin
            · rw [h2] at he; exact va_alen hx hb hK hP (am_off k ii) 3 he (ty := .object "WordTerminator$Stage") rfl hv hd hfin
            · rw [h2] at he; exact va_alen hx hb hK hP (am_off k ii) 4 he (ty := .object "WordTerminator$Sheet") rfl hv hd hfin
        · refine va_slen (b := S) hx hb hX (by omega) (show ¬ B ≤ S by omega) hS hd ?_
          have : Int32.ofNat L = Int32.ofInt (am_len g 34 0) := by
            rw [show am_len g 34 0 = (L : Int) from hsc.1, Int32.ofInt_eq_ofNat]
          rw [this]
          exact kk H locs hHP hS
      · cases h
    · cases h
  · rename_i x
    split at h
    · rename_i hd4
      unfold am_obi at h
      split at h
      · rename_i k1 t
        cases h
        simp only [am_aux, decide_eq_true_eq] at hk
        rcases hk with z | z | ⟨-, hoi, hf1, hl1⟩
        · omega
        · omega
        · have hw := am_wdeq B S t
          have hw2 : am_wd t ≤ 8 := by
            have := hd4.2
            unfold am_wd at this
            have h0 : (if am_isL (Sum.inr (Sum.inr (Sum.inl k1)) : AV) = true then 2 else 1) = 1 := rfl
            rw [h0] at this
            omega
          refine W.objInit hx hb hown (hts _ (am_g (am_OI_ok _ hoi) rfl)) (hts _ (am_g am_objw.1 rfl)) (hts _ (am_g am_objw.2 rfl)) rfl hml.symm rfl hd (by omega) ?_ ?_
          · show 2 * 0 + ((t.map (am_cv B S)).map fun v => v.category).sum + 12 ≤ R.locals
            rw [hw]; omega
          · exact kk H locs hHP hS
      · cases h
    · cases h
  · rename_i x
    split at h
    · rename_i hd5
      subst hd5
      unfold am_acp at h
      split at h
      · rename_i n p2 k2 i2 p1 k1 i1 t
        split at h
        · rename_i hc
          obtain ⟨hA1, hA2, hak1, hak2, hn0, hp10, hp20, hb1, hb2, hwd, hNN⟩ := hc
          cases h
          simp only [am_aux, decide_eq_true_eq] at hk
          rcases hk with z | ⟨-, hac, hf1, hl1⟩ | z | z
          · omega
          · have o1 := am_okL_cons.mp hs
            have hn : inI n := o1.1
            have o2 := am_okL_cons.mp o1.2
            have hp2 : inI p2 := o2.1
            have o3 := am_okL_cons.mp (am_okL_cons.mp o2.2).2
            have hp1 : inI p1 := o3.1
            obtain ⟨hk134, -⟩ := am_okAeq hA1
            obtain ⟨hk234, -⟩ := am_okAeq hA2
            have he1 : (am_ws cy B S g r N)[am_off k1 i1]? = some (am_ad B S k1 i1, .inl (cy 0, (am_al k1 i1).toNat, .inl (fun (y : Nat) => Int32.ofInt (g k1 i1 (y : Int))))) := by
              rw [am_wsA hA1]; unfold am_en; rw [if_neg (by omega), if_pos hak1, ((am_acyk k1 hk134).1 hak1)]
            have he2 : (am_ws cy B S g r N)[am_off k2 i2]? = some (am_ad B S k2 i2, .inl (cy 0, (am_al k2 i2).toNat, .inl (fun (y : Nat) => Int32.ofInt (g k2 i2 (y : Int))))) := by
              rw [am_wsA hA2]; unfold am_en; rw [if_neg (by omega), if_pos hak2, ((am_acyk k2 hk234).1 hak2)]
            have nn : ∀ {y : Int}, inI y → 0 ≤ y → ¬ Int32.ofInt y < 0 := fun hy h0 z => by
              have := (am_ltI (y := 0) hy ⟨by omega, by omega⟩).mp z
              omega
            have hw := am_wdeq B S t
            refine va_copyi hx hb hml hown (hts _ (am_g (am_AC_ok _ hac) rfl)) (hts _ (am_g am_acpw.1 rfl)) (hts _ (am_g am_acpw.2.1 rfl)) (hts _ (am_g am_acpw.2.2 rfl)) hK hP am_wsD hS (am_off k1 i1) (am_off k2 i2) 0 0 he1 he2 (ty := .int) rfl rfl rfl (nn hp1 hp10) (nn hp2 hp20) (nn hn hn0) (by rw [am_clI hp1 hp10, am_clI hn hn0]; omega) (by rw [am_clI hp2 hp20, am_clI hn hn0]; omega) (fun _ _ => rfl) (by omega) ?_ hd (fun H1 locs1 hP1 _ hS1 => kk H1 locs1 ⟨?_, fun hl => absurd hl (by omega), hN, am_gcpyok hG hak1, ?_⟩ hS1)
            · rw [hw]
              have : nativeFrameWords "java/lang/System" "arraycopy" 5 = 7 := by decide +kernel
              omega
            · have e4 : am_en cy B S (gcpy g k1 i1 p1 k2 i2 p2 n) r k2 i2 = .inl (cy 0, (am_al k2 i2).toNat, .inl (fun (y : Nat) => Int32.ofInt (gcpy g k1 i1 p1 k2 i2 p2 n k2 i2 (y : Int)))) := by
                unfold am_en; rw [if_neg (by omega), if_pos hak2, ((am_acyk k2 hk234).1 hak2)]
              rw [← am_wsset (cy := cy) (B := B) (S := S) (g := g) (r := r) hN hA2 (fun k' i' hne => ⟨am_gcpyne hne, rfl⟩), e4]
              have e5 : va_cpy (fun (y : Nat) => Int32.ofInt (g k1 i1 (y : Int))) (fun (y : Nat) => Int32.ofInt (g k2 i2 (y : Int))) (Int32.ofInt p1).toNatClampNeg (Int32.ofInt p2).toNatClampNeg (Int32.ofInt n).toNatClampNeg = fun (y : Nat) => Int32.ofInt (gcpy g k1 i1 p1 k2 i2 p2 n k2 i2 (y : Int)) := by
                funext y
                rw [am_clI hp1 hp10, am_clI hp2 hp20, am_clI hn hn0]
                unfold va_cpy gcpy
                by_cases hy : p2.toNat ≤ y ∧ y < p2.toNat + n.toNat
                · rw [if_pos hy, if_pos ⟨rfl, rfl, by omega, by omega⟩]
                  have e9 : ((p1.toNat + (y - p2.toNat) : Nat) : Int) = p1 + ((y : Int) - p2) := by omega
                  show Int32.ofInt (g k1 i1 ((p1.toNat + (y - p2.toNat) : Nat) : Int)) = _
                  rw [e9]
                · rw [if_neg hy, if_neg (by intro z; exact hy ⟨by omega, by omega⟩)]
              rw [e5] at hP1
              exact hP1
            · refine ⟨?_, fun j hj => ?_⟩
              · show gcpy g k1 i1 p1 k2 i2 p2 n 35 0 0 = _
                rw [am_gcpyne (by omega)]; exact hsc.1
              · show Int32.ofInt (gcpy g k1 i1 p1 k2 i2 p2 n 34 0 (j : Int)) = _
                rw [am_gcpyne (by omega)]; exact hsc.2 j hj
          · omega
          · omega
        · cases h
      · cases h
    · split at h
      · rename_i hd6
        subst hd6
        unfold am_mx at h
        split at h
        · rename_i y x1 t
          split at h
          · rename_i hwd
            cases h
            simp only [am_aux, decide_eq_true_eq] at hk
            rcases hk with z | z | ⟨-, hmx, hf1, hl1⟩ | z
            · omega
            · omega
            · have hy : inI y := (am_okL_cons.mp hs).1
              have hx1 : inI x1 := (am_okL_cons.mp (am_okL_cons.mp hs).2).1
              have hw := am_wdeq B S t
              refine va_mmax hx hb hml hown (hts _ (am_g (am_MX_ok _ hmx) rfl)) (hts _ (am_g am_maxw.1 rfl)) (hts _ (am_g am_maxw.2.1 rfl)) (hts _ (am_g am_maxw.2.2 rfl)) (by omega) (by rw [hw]; omega) hce hsl hd ?_
              have : (if Int32.ofInt x1 < Int32.ofInt y then Int32.ofInt y else Int32.ofInt x1) = Int32.ofInt (if x1 < y then y else x1) := by
                by_cases hh : x1 < y
                · rw [if_pos ((am_ltI hx1 hy).mpr hh), if_pos hh]
                · rw [if_neg (fun z => hh ((am_ltI hx1 hy).mp z)), if_neg hh]
              rw [this]
              exact kk H locs hHP hS
            · omega
          · cases h
        · cases h
      · split at h
        · rename_i hd7
          subst hd7
          unfold am_mn at h
          split at h
          · rename_i y x1 t
            split at h
            · rename_i hwd
              cases h
              simp only [am_aux, decide_eq_true_eq] at hk
              rcases hk with z | z | z | ⟨-, hmx, hf1, hl1⟩
              · omega
              · omega
              · omega
              · have hy : inI y := (am_okL_cons.mp hs).1
                have hx1 : inI x1 := (am_okL_cons.mp (am_okL_cons.mp hs).2).1
                have hw := am_wdeq B S t
                refine va_mmin hx hb hml hown (hts _ (am_g (am_MM_ok _ hmx) rfl)) (hts _ (am_g am_minw.1 rfl)) (hts _ (am_g am_minw.2.1 rfl)) (hts _ (am_g am_minw.2.2 rfl)) (by omega) (by rw [hw]; omega) hce hsl hd ?_
                have : (if Int32.ofInt y < Int32.ofInt x1 then Int32.ofInt y else Int32.ofInt x1) = Int32.ofInt (if y < x1 then y else x1) := by
                  by_cases hh : y < x1
                  · rw [if_pos ((am_ltI hy hx1).mpr hh), if_pos hh]
                  · rw [if_neg (fun z => hh ((am_ltI hy hx1).mp z)), if_neg hh]
                rw [this]
                exact kk H locs hHP hS
            · cases h
          · cases h
        · cases h
  · cases h
end AMH2
