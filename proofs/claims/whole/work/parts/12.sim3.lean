/-! SIMULATION: new cells, calls, and the whole: what the abstract machine answers, the machine answers -/
/-- places of a cell; of the first N -/
def am_cs (o : Nat) : Nat := if am_ak (am_lay o).1 = 0 then am_nf (am_lay o).1 else (am_al (am_lay o).1 (am_lay o).2).toNat
def am_so : Nat → Nat
  | 0 => 0
  | n + 1 => am_so n + am_cs n
theorem am_so_mono {a b : Nat} (h : a ≤ b) : am_so a ≤ am_so b := by
  induction b with
  | zero => rw [show a = 0 by omega]; exact Nat.le_refl _
  | succ n ih =>
    by_cases e : a = n + 1
    · rw [e]; exact Nat.le_refl _
    · have := ih (by omega)
      show am_so a ≤ am_so n + am_cs n
      omega
theorem am_ak0 : ∀ k, k < 34 → am_ak k = 0 → k < 9 := by decide +kernel
theorem am_gfilne {g : GI} {k : Nat} {i v : Int} {k' : Nat} {i' : Int} (h : ¬ (k' = k ∧ i' = i)) : gfil g k i v k' i' = g k' i' := by
  funext s'
  unfold gfil
  rw [if_neg h]
theorem am_gfilat {g : GI} {k : Nat} {i v s : Int} : gfil g k i v k i s = v := by
  unfold gfil
  rw [if_pos ⟨rfl, rfl⟩]
theorem am_scfil {L : Nat} {xs : Nat → Int32} {g : GI} {k : Nat} {i v : Int} (hk : k < 34) (h : am_sc L xs g) : am_sc L xs (gfil g k i v) := by
  refine ⟨?_, fun j hj => ?_⟩
  · rw [am_gfilne (by omega)]; exact h.1
  · rw [am_gfilne (by omega)]; exact h.2 j hj
theorem am_defR {t : FieldType} (h : t.isReference = true) : defaultValue t = .null := by
  cases t <;> first | rfl | cases h
section AMN
variable {p : Program} {l : Launch} {e : Env} {R : Room} {s : State} {mi : MethodId} {args : Array Value} {below : List Frame} {meth : Method} {c : Code} {H : Heap} {locs : List Loc} {cells slots : Nat} {Q : State → Prop}
variable {B S m pc L : Nat} {lc : Array Slot} {ls st : List AV} {i : Instr} {a : Int} {b c1 d N : Nat} {g r : GI} {cy : Nat → ClassId} {D : va_G} {xs : Nat → Int32} {H0 : Heap}
/-- behind a new cell: the picture has one more -/
theorem am_born {H1 : Heap} (hHP : am_HP cy D B S L xs g r N H) (hN : N < NA) (hz : H1.size = H.size + 1) (ho : ∀ q, q < H.size → H1[q]? = H[q]?)
    (hat : va_at D vwCl (B + N, am_en cy B S (gfil g (am_lay N).1 (am_lay N).2 0) (gfil r (am_lay N).1 (am_lay N).2 (-1)) (am_lay N).1 (am_lay N).2) H1) : am_HP cy D B S L xs (gfil g (am_lay N).1 (am_lay N).2 0) (gfil r (am_lay N).1 (am_lay N).2 (-1)) (N + 1) H1 := by
  obtain ⟨hP, hsz, -, hG, hsc⟩ := hHP
  refine ⟨?_, fun _ => by rw [hz, hsz hN]; omega, hN, am_gfilok hG, am_scfil (am_laylay N hN).1 hsc⟩
  rw [← am_wspush (cy := cy) (B := B) (S := S) (g := g) (r := r) hN (fun k' i' hne => ⟨am_gfilne hne, am_gfilne hne⟩)]
  refine (hP.kept (fun k x hx => ho x.1 ((hP k x hx).lt))).app (fun k x hx => ?_)
  have hk : k < 1 := (List.getElem?_eq_some_iff.mp hx).1
  rw [show k = 0 by omega] at hx
  cases hx
  exact hat
theorem am_bornS {H1 : Heap} (hS : va_S (fun q => B ≤ q) H0 H locs) (hz : H1.size = H.size + 1) (ho : ∀ q, q < H.size → H1[q]? = H[q]?) : va_S (fun q => B ≤ q) H0 H1 locs :=
  ⟨Nat.le_trans hS.1 (by omega), fun x h1 h2 => (ho x (Nat.lt_of_lt_of_le h1 hS.1)).trans (hS.2.1 x h1 h2), hS.2.2⟩
theorem am_simnw {q : List AV × GI × GI × Nat} (hx : p.tables.exec = Jvm.exec) (hb : c.code = am_by m) (hts : ∀ w ∈ am_gw, w.before args s = true) (hown : s.vm.findClass (am_cn (am_oc m)) = some mi.cls) (hKx : am_Kx cy D s)
    (hce : cells + 1 ≤ R.cells) (hsl : slots + am_cs N ≤ R.slots) (hHP : am_HP cy D B S L xs g r N H) (hS : va_S (fun q => B ≤ q) H0 H locs) (hs : am_okL st)
    (hk : am_aux m pc i a b c1 d = true) (hd : decode (am_by m) pc = .ok (i, am_ln i)) (h : am_nw i a g r N st = some q)
    (kk : ∀ (H1 : Heap) (locs1 : List Loc), am_HP cy D B S L xs q.2.1 q.2.2.1 q.2.2.2 H1 → va_S (fun q => B ≤ q) H0 H1 locs1 → W p l e R s mi args below meth c H1 locs1 (cells + 1) (slots + am_cs N) Q (F0 mi (pc + am_ln i) lc (q.1.map (am_cv B S)))) : W p l e R s mi args below meth c H locs cells slots Q (F0 mi pc lc (st.map (am_cv B S))) := by
  have hK := hKx.1
  have hsz := hHP.2.1
  unfold am_nw at h
  split at h
  · rename_i x
    split at h
    · rename_i hc
      obtain ⟨hN, hak, hka⟩ := hc
      unfold am_mk1 at h
      cases h
      simp only [am_aux, decide_eq_true_eq] at hk
      obtain ⟨hk34, hi0, hi1, hoff⟩ := am_laylay N hN
      have hk9 := am_ak0 _ hk34 hak
      have han : a.toNat = (am_lay N).1 := by omega
      have hin : ∀ w ∈ u_ws (am_cn (am_lay N).1) (am_TT (am_lay N).1) (am_nf (am_lay N).1), w ∈ am_gw := fun w hw => am_g (am_fw _ hk9 w hw) (by
        obtain ⟨j, -, rfl⟩ := List.mem_map.mp hw
        unfold u_lay
        split <;> rfl)
      have hcl := am_cl _ hk9
      have hKn := hK.1 _ _ hcl
      have hcs : am_cs N = am_nf (am_lay N).1 := by unfold am_cs; rw [if_pos hak]
      have hlink := hts _ (am_g (am_CK_ok _ hk.2) rfl)
      rw [show ((am_oc m, x, a.toNat) : Nat × Nat × Nat).2.2 = (am_lay N).1 from han] at hlink
      rw [hcs] at hsl kk
      refine W.newcK hx hb hown hlink (hts _ (am_g (am_insw _ hk9) rfl)) (hts _ (am_g (am_iniw _ hk9) rfl)) rfl hd hce hsl hKn.2.1 (hsz hN) fun H1 kC hkC e1 z1 o1 => ?_
      rw [← hsz hN] at z1 o1
      have hal : am_ad B S (am_lay N).1 (am_lay N).2 = B + N := by
        unfold am_ad; rw [if_neg (by omega), hoff]
      have := kk H1 locs (am_born hHP hN z1 o1 ?_) (am_bornS hS z1 o1)
      · rw [show (List.map (am_cv B S) (vR (am_lay N).1 (am_lay N).2 :: st)) = .ref (B + N) :: st.map (am_cv B S) from by rw [List.map_cons]; show Value.ref (am_ad B S _ _) :: _ = _; rw [hal]] at this
        exact this
      · have e4 : am_en cy B S (gfil g (am_lay N).1 (am_lay N).2 0) (gfil r (am_lay N).1 (am_lay N).2 (-1)) (am_lay N).1 (am_lay N).2 = .inr ((am_lay N).1, am_fs B S (gfil g (am_lay N).1 (am_lay N).2 0) (gfil r (am_lay N).1 (am_lay N).2 (-1)) (am_lay N).1 (am_lay N).2) := by
          unfold am_en; rw [if_pos hak]
        rw [e4]
        refine ⟨_, hcl, (u_born (am_ty (am_lay N).1) hts hin hKn hkC e1 (am_fty _ hk9)).to (fun j hj => ?_)⟩
        unfold vp_V
        rw [List.getD_eq_getElem?_getD, am_fsat hj]
        show _ = am_fv B S _ _ _ _ _
        unfold am_fv
        have hft := am_ftty _ hk9 j hj
        by_cases h2 : am_ft (am_lay N).1 (j : Int) = 2
        · rw [if_pos h2, am_gfilat, if_pos (by omega), am_defR (hft.2.2.1 h2)]
        · rw [if_neg h2, am_gfilat]
          rcases (show am_ft (am_lay N).1 (j : Int) = 0 ∨ am_ft (am_lay N).1 (j : Int) = 1 by omega) with h3 | h3
          · rw [hft.1 h3]; rfl
          · rw [hft.2.1 h3]; rfl
    · cases h
  · rename_i ty
    unfold am_na at h
    split at h
    · rename_i n t
      split at h
      · rename_i hc
        obtain ⟨hN, hak, -, hn⟩ := hc
        unfold am_mk1 at h
        cases h
        simp only [am_aux, decide_eq_true_eq] at hk
        obtain ⟨hk34, hi0, hi1, hoff⟩ := am_laylay N hN
        have har := am_alrange (am_lay N).1 (am_lay N).2
        have hni : inI n := (am_okL_cons.mp hs).1
        have hn0 : ¬ Int32.ofInt n < 0 := fun z => by
          have := (am_ltI (y := 0) hni ⟨by omega, by omega⟩).mp z
          omega
        have hcl : (Int32.ofInt n).toNatClampNeg = (am_al (am_lay N).1 (am_lay N).2).toNat := by rw [am_clI hni (by omega), hn]
        have hcs : am_cs N = (am_al (am_lay N).1 (am_lay N).2).toNat := by unfold am_cs; rw [if_neg (by omega)]
        rw [hcs] at hsl kk
        have hal : am_ad B S (am_lay N).1 (am_lay N).2 = B + N := by
          unfold am_ad; rw [if_neg (by omega), hoff]
        rcases hk with ⟨rfl, rfl⟩ | ⟨rfl, rfl⟩
        · refine va_newaK (atype := .int) hx hb (hts _ (am_g am_arrw.1 rfl)) rfl hd rfl hn0 hcl (by show _ * 4 ≤ _; omega) hce hsl (hsz hN) fun H1 cA e1 z1 o1 hAr hNm => ?_
          rw [← hsz hN] at z1 o1
          have hcA : cA = cy 0 := by
            have h5 : s.vm.findClass ("[" ++ FieldType.int.toString) = some (cy 0) := (hK.2 0 (cy 0, .int) rfl).2
            exact Option.some.inj (hNm.symm.trans h5)
          subst hcA
          have := kk H1 locs (am_born hHP hN z1 o1 ?_) (am_bornS hS z1 o1)
          · rw [show (List.map (am_cv B S) (vR (am_lay N).1 (am_lay N).2 :: t)) = .ref (B + N) :: t.map (am_cv B S) from by rw [List.map_cons]; show Value.ref (am_ad B S _ _) :: _ = _; rw [hal]] at this
            exact this
          · have hak1 : am_ak (am_lay N).1 = 1 := hak
            unfold am_en
            rw [if_neg (by omega), if_pos hak1, (am_acyk _ hk34).1 hak1]
            show H1[B + N]? = some (vp_cell _ _)
            rw [vp_cell_i, e1]
            congr 2
            funext y
            rw [am_gfilat]; rfl
        · refine va_newaK (atype := .long) hx hb (hts _ (am_g am_arrw.2 rfl)) rfl hd rfl hn0 hcl (by show _ * 8 ≤ _; omega) hce hsl (hsz hN) fun H1 cA e1 z1 o1 hAr hNm => ?_
          rw [← hsz hN] at z1 o1
          have hcA : cA = cy 1 := by
            have h5 : s.vm.findClass ("[" ++ FieldType.long.toString) = some (cy 1) := (hK.2 1 (cy 1, .long) rfl).2
            exact Option.some.inj (hNm.symm.trans h5)
          subst hcA
          have := kk H1 locs (am_born hHP hN z1 o1 ?_) (am_bornS hS z1 o1)
          · rw [show (List.map (am_cv B S) (vR (am_lay N).1 (am_lay N).2 :: t)) = .ref (B + N) :: t.map (am_cv B S) from by rw [List.map_cons]; show Value.ref (am_ad B S _ _) :: _ = _; rw [hal]] at this
            exact this
          · have hak1 : am_ak (am_lay N).1 = 2 := hak
            unfold am_en
            rw [if_neg (by omega), if_neg (by omega), if_pos hak1, (am_acyk _ hk34).2.1 hak1]
            show H1[B + N]? = some (vp_cell _ _)
            rw [vp_cell_l, e1]
            congr 2
            funext y
            rw [am_gfilat]; rfl
      · cases h
    · cases h
  · rename_i x
    unfold am_na at h
    split at h
    · rename_i n t
      split at h
      · rename_i hc
        obtain ⟨hN, hak, htk, hn⟩ := hc
        unfold am_mk1 at h
        cases h
        simp only [am_aux, decide_eq_true_eq] at hk
        obtain ⟨hk34, hi0, hi1, hoff⟩ := am_laylay N hN
        have har := am_alrange (am_lay N).1 (am_lay N).2
        have hni : inI n := (am_okL_cons.mp hs).1
        have hn0 : ¬ Int32.ofInt n < 0 := fun z => by
          have := (am_ltI (y := 0) hni ⟨by omega, by omega⟩).mp z
          omega
        have hcl : (Int32.ofInt n).toNatClampNeg = (am_al (am_lay N).1 (am_lay N).2).toNat := by rw [am_clI hni (by omega), hn]
        have hcs : am_cs N = (am_al (am_lay N).1 (am_lay N).2).toNat := by unfold am_cs; rw [if_neg (by omega)]
        rw [hcs] at hsl kk
        have hal : am_ad B S (am_lay N).1 (am_lay N).2 = B + N := by
          unfold am_ad; rw [if_neg (by omega), hoff]
        have htk := htk rfl
        have hlink := hts _ (am_g (am_CK_ok _ hk.1) rfl)
        have key : ∀ (C : String), am_cn a.toNat = C → va_AO C s → s.vm.findClass ("[" ++ (FieldType.object C).toString) = some (cy (am_acy (am_lay N).1)) → W p l e R s mi args below meth c H locs cells slots Q (F0 mi pc lc ((Sum.inl n :: t).map (am_cv B S))) := by
          intro C hC hAO hcyC
          have hlink2 : (Cond.classLink (am_cn (am_oc m)) x C).before args s = true := by rw [← hC]; exact hlink
          refine W.anew hx hb hown hlink2 (va_AO.use hAO) rfl hd rfl hn0 (by rw [hcl]; omega) hce (by rw [hcl]; exact hsl) fun cA kA comp f1 f2 f3 f4 => ?_
          have hcA : cA = cy (am_acy (am_lay N).1) := Option.some.inj (f1.symm.trans hcyC)
          subst hcA
          rw [hcl]
          generalize hH1 : H.push ({ cls := cy (am_acy (am_lay N).1), slots := Array.replicate (am_al (am_lay N).1 (am_lay N).2).toNat .null, vm := .none } : Cell) = H1
          have z1 : H1.size = H.size + 1 := by rw [← hH1, Array.size_push]
          have e1 : H1[H.size]? = some (arrV (cy (am_acy (am_lay N).1)) (am_al (am_lay N).1 (am_lay N).2).toNat (fun _ => .null)) := by rw [← hH1, Array.getElem?_push_size, ← arrV_new]
          have o1 : ∀ q : Nat, q < H.size → H1[q]? = H[q]? := fun q hq => by rw [← hH1, Array.getElem?_push, if_neg (Nat.ne_of_lt hq)]
          rw [hsz hN] at e1
          have := kk H1 locs (am_born hHP hN z1 o1 ?_) (am_bornS hS z1 o1)
          · rw [show (List.map (am_cv B S) (vR (am_lay N).1 (am_lay N).2 :: t)) = .ref H.size :: t.map (am_cv B S) from by rw [List.map_cons]; show Value.ref (am_ad B S _ _) :: _ = _; rw [hal, hsz hN]] at this
            exact this
          · unfold am_en
            rw [if_neg (by omega), if_neg (by omega), if_neg (by omega)]
            show H1[B + N]? = some (vp_cell _ _)
            rw [vp_cell_q, e1]
            congr 2
            funext y
            rw [am_gfilat, if_pos (by omega)]; rfl
        rcases (am_acyk _ hk34).2.2.1 hak with ⟨-, h2, h3⟩ | ⟨-, h2, h3⟩ | ⟨-, h2, h3⟩
        · obtain ⟨_, _, _, _, _, h5⟩ := (hK.2 2 (cy 2, .object "WordTerminator$Rule") rfl).2
          exact key "WordTerminator$Rule" (by rw [← htk, h3]; rfl) hKx.2.2.1 (by rw [h2]; exact h5)
        · obtain ⟨_, _, _, _, _, h5⟩ := (hK.2 3 (cy 3, .object "WordTerminator$Stage") rfl).2
          exact key "WordTerminator$Stage" (by rw [← htk, h3]; rfl) hKx.2.2.2.1 (by rw [h2]; exact h5)
        · obtain ⟨_, _, _, _, _, h5⟩ := (hK.2 4 (cy 4, .object "WordTerminator$Sheet") rfl).2
          exact key "WordTerminator$Sheet" (by rw [← htk, h3]; rfl) hKx.2.2.2.2 (by rw [h2]; exact h5)
      · cases h
    · cases h
  · cases h
end AMN
