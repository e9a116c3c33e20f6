/-! SIMULATION: calls, and the whole -/
def am_wsm (m : Nat) : List Cond := Cond.code (am_nm m) (am_by m) (am_ml m) (am_rt m) :: am_gw
def am_rm (m N N' : Nat) : Room := { frames := am_fr m, cells := N' - N, slots := am_so N' - am_so N, locals := am_lo m }
/-- a method's start and end, over the picture -/
def am_Pc (cy : Nat → ClassId) (D : va_G) (B S L : Nat) (xs : Nat → Int32) (as : List AV) (g r : GI) (N : Nat) : Array Value → State → Prop := fun v U => v = (as.map (am_cv B S)).toArray ∧ am_Kx cy D U ∧ am_HP cy D B S L xs g r N U.heap ∧ va_X S L xs U U.heap ∧ B ≤ U.heap.size
def am_Qc (cy : Nat → ClassId) (D : va_G) (B S L : Nat) (xs : Nat → Int32) (v : Option AV) (g r : GI) (N : Nat) : Array Value → State → Outcome → State → Prop := fun _ st oc t => oc = .returned (v.map (am_cv B S)) ∧ am_HP cy D B S L xs g r N t.heap ∧ va_F (fun q => B ≤ q) st t
theorem am_blind {cy : Nat → ClassId} {D : va_G} {B S L : Nat} {xs : Nat → Int32} {as : List AV} {g r : GI} {N : Nat} : FrameBlind (am_Pc cy D B S L xs as g r N) := by
  rintro a U g' mk ⟨h1, h2, h3, h4, h5⟩
  refine ⟨h1, ⟨va_K.moved (u := U) (U := U.calling g' mk a) (Vm.Alike.refl U.vm) h2.1, fun q hq => va_Nw.same (u := U) rfl rfl (h2.2.1 q hq), va_AO.moved (u := U) (Vm.Alike.refl U.vm) h2.2.2.1, va_AO.moved (u := U) (Vm.Alike.refl U.vm) h2.2.2.2.1, va_AO.moved (u := U) (Vm.Alike.refl U.vm) h2.2.2.2.2⟩, h3, va_X.moved (u := U) (Vm.Alike.refl U.vm) h4, h5⟩
theorem am_good (ws : List Cond) (h : ∀ w ∈ ws, w ∈ am_gw) : GoodIn am_gw ws := fun w hw => ⟨h w hw, good_of_word (List.mem_filter.mp (h w hw)).2⟩
theorem am_codew {m : Nat} (hm : m < 194) : Cond.code (am_nm m) (am_by m) (am_ml m) (am_rt m) ∈ am_gw := am_g (am_mo m hm).1 rfl
theorem am_wsmin {m : Nat} (hm : m < 194) : ∀ w ∈ am_wsm m, w ∈ am_gw := by
  intro w hw
  rcases List.mem_cons.mp hw with rfl | hw
  · exact am_codew hm
  · exact hw
theorem am_popeq : ∀ {n : Nat} {acc st : List AV} {q : List AV × List AV}, am_pop n acc st = some q → ∃ t : List AV, st = t ++ q.2 ∧ t.length = n ∧ q.1 = t.reverse ++ acc
  | 0, _, _, _, h => by cases h; exact ⟨[], rfl, rfl, rfl⟩
  | _ + 1, _, [], _, h => by cases h
  | n + 1, acc, v :: st, q, h => by
    obtain ⟨t, h1, h2, h3⟩ := am_popeq (n := n) h
    exact ⟨v :: t, by rw [h1]; rfl, by rw [List.length_cons, h2], by rw [h3]; simp⟩
theorem am_lvrep (B S : Nat) : ∀ (n i : Nat), am_lv B S i (List.replicate n vN) = []
  | 0, _ => rfl
  | n + 1, i => by
    rw [List.replicate_succ]
    unfold am_lv
    rw [if_pos (show am_isN vN = true from rfl)]
    exact am_lvrep B S n (i + 1)
theorem am_lvini (B S n : Nat) : ∀ (as : List AV) (i : Nat), (∀ v ∈ as, am_isN v = false) → am_lv B S i (am_exp as ++ List.replicate n vN) = lv_args i (as.map (am_cv B S))
  | [], i, _ => am_lvrep B S n i
  | v :: t, i, h => by
    have hv := h v List.mem_cons_self
    have ht : ∀ w ∈ t, am_isN w = false := fun w hw => h w (List.mem_cons_of_mem _ hw)
    rw [List.map_cons]
    show _ = (i, am_cv B S v) :: lv_args (if (am_cv B S v).category = 2 then i + 2 else i + 1) _
    rw [am_cat]
    unfold am_exp
    by_cases hl : am_isL v = true
    · rw [if_pos hl, if_pos (by rw [if_pos hl])]
      rw [List.cons_append, List.cons_append]
      unfold am_lv
      rw [if_neg (by rw [hv]; decide)]
      unfold am_lv
      rw [if_pos (show am_isN vN = true from rfl), am_lvini B S n t (i + 1 + 1) ht]
    · rw [if_neg hl, if_neg (by rw [if_neg hl]; decide)]
      rw [List.cons_append]
      unfold am_lv
      rw [if_neg (by rw [hv]; decide), am_lvini B S n t (i + 1) ht]
theorem am_lgsl (B S : Nat) : ∀ (as : List AV), (lg_sl (as.map (am_cv B S))).length = (am_exp as).length
  | [] => rfl
  | v :: t => by
    have ih := am_lgsl B S t
    have e1 : lg_sl ((v :: t).map (am_cv B S)) = (if (am_cv B S v).category = 2 then [Slot.val (am_cv B S v), .second] else [.val (am_cv B S v)]) ++ lg_sl (t.map (am_cv B S)) := by
      unfold lg_sl
      rw [List.map_cons, List.flatMap_cons]
    have e2 : am_exp (v :: t) = if am_isL v = true then v :: vN :: am_exp t else v :: am_exp t := rfl
    rw [e1, e2, List.length_append, ih, am_cat]
    by_cases hl : am_isL v = true
    · rw [if_pos hl, if_pos hl, if_pos rfl]
      simp only [List.length_cons, List.length_nil]
      omega
    · rw [if_neg hl, if_neg hl, if_neg (by decide)]
      simp only [List.length_cons, List.length_nil]
      omega
/-- what a frame stands on -/
def am_cx (p : Program) (R : Room) (s : State) (mi : MethodId) (args : Array Value) (meth : Method) (c : Code) (m : Nat) (cy : Nat → ClassId) (D : va_G) : Prop :=
  p.tables.exec = Jvm.exec ∧ c.code = am_by m ∧ c.maxLocals = am_ml m ∧ s.vm.findClass (am_cn (am_oc m)) = some mi.cls ∧ (∀ w ∈ am_gw, w.before args s = true) ∧ am_Kx cy D s ∧ (am_mk m = 2 → meth.name = "<init>") ∧ am_fr m ≤ R.frames ∧ am_lo m ≤ R.locals
def am_Sim (l : Launch) (cy : Nat → ClassId) (D : va_G) (B S L : Nat) (xs : Nat → Int32) (n : Nat) : Prop :=
  ∀ (m pc : Nat) (ls st : List AV) (g r : GI) (N : Nat) (v : Option AV) (g' r' : GI) (N' : Nat), am_ex n m pc ls st g r N = some (v, g', r', N') → m < 195 → am_okL ls → am_okL st → ls.length = am_ml m →
  ∀ (p : Program) (e : Env) (R : Room) (s : State) (mi : MethodId) (args : Array Value) (below : List Frame) (meth : Method) (c : Code) (Q : State → Prop) (H H0 : Heap) (locs : List Loc) (cells slots : Nat) (lc : Array Slot),
    am_cx p R s mi args meth c m cy D → lv_has lc (am_ml m) (am_lv B S 0 ls) → am_HP cy D B S L xs g r N H → va_S (fun q => B ≤ q) H0 H locs → va_X S L xs s H0 → S < B → B ≤ H0.size → cells + (N' - N) ≤ R.cells → slots + (am_so N' - am_so N) ≤ R.slots →
    (∀ (i1 : Instr) (a1 : Int) (b1 c1 d1 pc1 : Nat) (lc1 : Array Slot) (st1 : List AV) (H1 : Heap) (locs1 : List Loc), am_aux m pc1 i1 a1 b1 c1 d1 = true → decode (am_by m) pc1 = .ok (i1, am_ln i1) → am_ret i1 (am_rt m) st1 = some v → am_okL st1 → am_HP cy D B S L xs g' r' N' H1 → va_S (fun q => B ≤ q) H0 H1 locs1 →
      W p l e R s mi args below meth c H1 locs1 (cells + (N' - N)) (slots + (am_so N' - am_so N)) Q (F0 mi pc1 lc1 (st1.map (am_cv B S)))) →
    W p l e R s mi args below meth c H locs cells slots Q (F0 mi pc lc (st.map (am_cv B S)))
theorem am_metof {l : Launch} {cy : Nat → ClassId} {D : va_G} {B S L : Nat} {xs : Nat → Int32} {n : Nat} (hsim : am_Sim l cy D B S L xs n) (hSB : S < B) {b : Nat} {as : List AV} {g r : GI} {N : Nat} {v : Option AV} {g' r' : GI} {N' : Nat} (hex : am_ex n b 0 (am_ini b as) [] g r N = some (v, g', r', N')) (hb : b < 194)
    (ha : am_okL as) (hlen : (am_exp as).length ≤ am_ml b) (hnN : as.all (fun v => !am_isN v) = true) :
    Met l (am_nm b) (am_wsm b) (am_rm b N N') (am_Pc cy D B S L xs as g r N) (am_Qc cy D B S L xs v g' r' N') (N' - N) (am_so N' - am_so N) (fun q => B ≤ q) := by
  have hpl := am_pl b (by omega)
  refine Met.ofW (cc := am_by b) (maxL := am_ml b) (ret := am_rt b) hpl.1 rfl ?_
  intro p e s m args below meth c s₁ Bd hml hv
  obtain ⟨rfl, hKx, hHP, hX, hB0⟩ := hv
  have hts := atoms_spec (ws := am_wsm b) Bd.pre
  have hown : s.vm.findClass (am_nm b).cls = some m.cls := findClass_of_methodNamed Bd.named
  rw [hpl.2.1] at hown
  have hlocks := Bd.notSynchronized
  have hr := Bd.returns
  rw [lg_entry_eq]
  have hl0 := lv_entry (as.map (am_cv B S)) (n := am_ml b) (by rw [am_lgsl]; exact hlen)
  have hall : ∀ w ∈ as, am_isN w = false := fun w hw => by
    have := List.all_eq_true.mp hnN w hw
    simpa using this
  rw [← am_lvini B S (am_ml b - (am_exp as).length) as 0 hall] at hl0
  refine hsim b 0 (am_ini b as) [] g r N v g' r' N' hex (by omega) (am_iniok ha) (fun _ h => by cases h) (am_inilen hlen) p e _ s m _ below meth c _ s.heap s.heap [] 0 0 _ ⟨Bd.exec, Bd.bytes, hml, hown, fun w hw => hts w (List.mem_cons_of_mem _ hw), hKx, ?_, Nat.le_refl _, Nat.le_refl _⟩ hl0 hHP va_S.rf hX hSB hB0 (by show 0 + (N' - N) ≤ N' - N; omega) (by show 0 + (am_so N' - am_so N) ≤ am_so N' - am_so N; omega) ?_
  · intro hm2
    rw [(name_of_methodNamed Bd.named Bd.method).1]
    exact (hpl.2.2.2.2.2 hm2).1
  · intro i1 a1 b1 c1 d1 pc1 lc1 st1 H1 locs1 hk hd hret hst hHP1 hS1
    rw [Nat.zero_add, Nat.zero_add]
    have hq : ∀ (w : Option Value), v.map (am_cv B S) = w → ∀ t : State, t.heap = H1 → s.WarmedH t.vm → am_Qc cy D B S L xs v g' r' N' (as.map (am_cv B S)).toArray s (.returned w) t := fun w hw t ht _ => ⟨by rw [hw], by rw [ht]; exact hHP1, hS1.F ht⟩
    unfold am_ret at hret
    split at hret
    · split at hret
      · rename_i x hc
        cases hret
        rcases hc with h1 | ⟨h1, h2⟩
        · exact W.iret Bd.exec Bd.bytes (by rw [hr, h1]) (hq _ rfl) hS1.2.2 hd
        · exact W.zret (ty := .boolean) Bd.exec Bd.bytes (by rw [hr, h1]) (by rcases h2 with rfl | rfl <;> rfl) (hq _ rfl) hS1.2.2 hd
      · cases hret
    · cases hret
      simp only [am_aux, decide_eq_true_eq] at hk
      exact W.lret Bd.exec Bd.bytes (by rw [hr, hk]) (hq _ rfl) hS1.2.2 hd
    · cases hret
      simp only [am_aux, decide_eq_true_eq] at hk
      exact W.aret (rt := .object "WordTerminator$Row") Bd.exec Bd.bytes (by rw [hr, hk]) (Or.inl ⟨_, rfl⟩) (Or.inr ⟨_, rfl⟩) (hq _ rfl) hS1.2.2 hd
    · cases hret
      simp only [am_aux, decide_eq_true_eq] at hk
      exact W.vret Bd.exec Bd.bytes (by rw [hr, hk]) (hq _ rfl) hS1.2.2 hd
    · cases hret
/-- behind a call -/
theorem am_go {p : Program} {l : Launch} {e : Env} {R : Room} {s : State} {mi : MethodId} {args : Array Value} {below : List Frame} {meth : Method} {c : Code} {H : Heap} {locs : List Loc} {cells slots : Nat} {Q : State → Prop} {B S L : Nat} {xs : Nat → Int32} {cy : Nat → ClassId} {D : va_G} {H0 : Heap} {pc : Nat} {lc : Array Slot} {rest st0 : List Value} {a : Array Value} {mc ms : Nat} {v : Option AV} {g1 r1 : GI} {N1 : Nat}
    (hr : va_Run p l e R s mi args below meth c H locs cells slots mc ms (F0 mi pc lc st0) rest (am_Qc cy D B S L xs v g1 r1 N1 a) (fun q => B ≤ q)) (hS : va_S (fun q => B ≤ q) H0 H locs)
    (kk : ∀ (H1 : Heap) (locs1 : List Loc), am_HP cy D B S L xs g1 r1 N1 H1 → va_S (fun q => B ≤ q) H0 H1 locs1 → W p l e R s mi args below meth c H1 locs1 (cells + mc) (slots + ms) Q (F0 mi (pc + 3) lc ((v.map (am_cv B S)).toList ++ rest))) : W p l e R s mi args below meth c H locs cells slots Q (F0 mi pc lc st0) := by
  intro T hT X
  obtain ⟨w, st₀, t, T', L', h0, X', hL, e1, e2, ⟨hw, hHP1, hz, hk⟩, st⟩ := hr T hT X
  have hw2 : w = v.map (am_cv B S) := by cases hw; rfl
  subst hw2
  rw [h0] at hz hk
  obtain ⟨t2, a1, b1⟩ := kk T'.heap (locs ++ L') (by rw [e1]; exact hHP1)
    ⟨Nat.le_trans hS.1 (by rw [e1]; exact hz), fun q h1 h2 => by rw [e1, hk q (Nat.lt_of_lt_of_le h1 hS.1) h2]; exact hS.2.1 q h1 h2, fun q hq => by
      rcases List.mem_append.mp hq with h | h
      · exact hS.2.2 q h
      · exact hL q h⟩ T' rfl X'
  exact ⟨t2, st t2 a1, b1⟩
theorem am_pshmap {B S : Nat} (v : Option AV) (rest : List AV) : (v.map (am_cv B S)).toList ++ rest.map (am_cv B S) = (am_psh v rest).map (am_cv B S) := by
  cases v <;> rfl
set_option maxHeartbeats 4000000 in
theorem am_sim (l : Launch) (cy : Nat → ClassId) (D : va_G) (B S L : Nat) (xs : Nat → Int32) (hSB : S < B) : ∀ n, am_Sim l cy D B S L xs n := by
  intro n
  induction n with
  | zero =>
    intro m pc ls st g r N v g' r' N' h
    cases h
  | succ n ih =>
    intro m pc ls st g r N v g' r' N' h hm hl hs hlen p e R s mi args below meth c Q H H0 locs cells slots lc hcx hlv hHP hS hX _ hB0 hce hsl hret
    obtain ⟨hx, hb, hml, hown, hts, hKx, hini, hfr, hlo⟩ := id hcx
    obtain ⟨en, he, h⟩ := am_exeq h
    have hk := am_chk_of hm he
    have hk2 := hk
    unfold am_chk at hk2
    simp only [Bool.and_eq_true, Bool.or_eq_true, decide_eq_true_eq] at hk2
    obtain ⟨hd, hln, haux⟩ := hk2
    have hG := hHP.2.2.2.1
    have hN := hHP.2.2.1
    rcases h with ⟨h1, rfl, rfl, rfl⟩ | ⟨as, rest, v1, g1, r1, N1, h1, h2, h3⟩ | ⟨pc1, ls1, st1, g1, r1, N1, h1, h2⟩
    · have hd1 : decode (am_by m) pc = .ok (en.1, am_ln en.1) := by
        rcases hln with h9 | h9
        · rw [← h9]; exact hd
        · exfalso
          unfold am_ret at h1
          split at h1
          · rename_i z; rw [z] at h9; cases h9
          · rename_i z; rw [z] at h9; cases h9
          · rename_i z; rw [z] at h9; cases h9
          · rename_i z; rw [z] at h9; cases h9
          · cases h1
      have := hret en.1 _ _ _ _ pc lc st H locs haux hd1 h1 hs hHP hS
      rw [Nat.sub_self, Nat.sub_self] at this
      exact this
    · have hc := am_caleq h1
      obtain ⟨o1, o2⟩ := am_popok hc.2.2.1 (fun _ h => by cases h) hs
      have hbm := am_callee hk h1
      obtain ⟨hb194, hbf, hbl⟩ := hbm
      obtain ⟨a1, a2, a3, a4⟩ := am_exok h2 (by omega) (am_iniok o1) (fun _ h => by cases h) hG hN
      have hst : am_okL (am_psh v1 rest) := by
        unfold am_psh
        split
        · exact o2
        · exact am_okL_cons.mpr ⟨a1 _ rfl, o2⟩
      obtain ⟨b1, b2, b3, b4⟩ := am_exok h3 hm hl hst a2 a4
      have m1 := am_so_mono a3
      have m2 := am_so_mono b3
      have hM := am_metof ih hSB h2 hb194 o1 hc.2.2.2.2.1 hc.2.2.2.2.2.1
      have hpl := am_pl en.2.2.2.1 (by omega)
      have hmo := am_mo en.2.2.2.1 hb194
      have hfit : cells + (N1 - N) ≤ R.cells ∧ slots + (am_so N1 - am_so N) ≤ R.slots := ⟨by omega, by omega⟩
      have hfin : ∀ (H1 : Heap) (locs1 : List Loc), am_HP cy D B S L xs g1 r1 N1 H1 → va_S (fun q => B ≤ q) H0 H1 locs1 → W p l e R s mi args below meth c H1 locs1 (cells + (N1 - N)) (slots + (am_so N1 - am_so N)) Q (F0 mi (pc + 3) lc ((v1.map (am_cv B S)).toList ++ rest.map (am_cv B S))) := by
        intro H1 locs1 hHP1 hS1
        rw [am_pshmap]
        refine ih m (pc + 3) ls (am_psh v1 rest) g1 r1 N1 v g' r' N' h3 hm hl hst hlen p e R s mi args below meth c Q H1 H0 locs1 _ _ lc hcx hlv hHP1 hS1 hX hSB hB0 (by omega) (by omega) ?_
        intro i1 a1' b1' c1' d1' pc1 lc1 st1 H2 locs2 hk9 hd9 hr9 hs9 hHP2 hS2
        rw [show cells + (N1 - N) + (N' - N1) = cells + (N' - N) by omega, show slots + (am_so N1 - am_so N) + (am_so N' - am_so N1) = slots + (am_so N' - am_so N) by omega]
        exact hret i1 a1' b1' c1' d1' pc1 lc1 st1 H2 locs2 hk9 hd9 hr9 hs9 hHP2 hS2
      have hPc : ∀ U : State, U.heap = H → s.WarmedH U.vm → am_Pc cy D B S L xs as g r N (as.map (am_cv B S)).toArray U := fun U hU hW => by
        refine ⟨rfl, hKx.moved hW, by rw [hU]; exact hHP, ?_, by rw [hU]; exact Nat.le_trans hB0 hS.1⟩
        refine va_X.moved hW.alike ?_
        rw [hU]
        exact hX.kept (hS.2.1 S (by omega) (show ¬ B ≤ S by omega))
      have hrm : am_fr en.2.2.2.1 + 1 ≤ R.frames ∧ 8 + (am_ml en.2.2.2.1 + 11) + am_lo en.2.2.2.1 ≤ R.locals := ⟨by omega, by omega⟩
      obtain ⟨t, ht1, ht2, ht3⟩ := am_popeq hc.2.2.1
      rw [List.append_nil] at ht3
      dsimp only at ht1 ht3
      have hcat : 2 * (F0 mi pc lc (st.map (am_cv B S))).monitorRoom + ((rest.map (am_cv B S)).map fun v => v.category).sum ≤ 8 := lv_room (by rw [am_wdeq]; exact hc.2.2.2.1)
      have hlc : lc.size = am_ml m := hlv.1
      have hisC := hc.1
      unfold am_isC at hisC
      split at hisC
      · rename_i x hins
        rw [hins] at haux hd hln
        simp only [am_aux, decide_eq_true_eq] at haux
        obtain ⟨hd0, hML, hmk, hcn, -⟩ := haux
        have hl3 : en.2.1 = 3 := hln.elim id (fun h => absurd (show 3 = 0 from h) (by decide))
        rw [hl3] at hd
        have hthi : am_thi N en.2.2.2.1 as = true := hc.2.2.2.2.2.2.resolve_left (by omega)
        unfold am_thi at hthi
        split at hthi
        · rename_i k ii as'
          simp only [Bool.and_eq_true] at hthi
          have hkk : k = am_oc en.2.2.2.1 := Nat.eq_of_beq_eq_true hthi.1
          have hok := hthi.2
          have hk9 : k < 9 := by
            have : ∀ b, b < 194 → am_mk b = 0 → am_oc b < 9 := by decide +kernel
            rw [hkk]; exact this _ hb194 hmk
          have he2 : (am_ws cy B S g r N)[am_off k ii]? = some (am_ad B S k ii, .inr (k, am_fs B S g r k ii)) := by
            rw [am_wsA hok]; unfold am_en; rw [if_pos (am_akob k hk9)]
          have hrec := va_recv hKx.1 hHP.1 (am_cl k hk9) he2
          refine am_go (va_runV (C := am_cn (am_oc en.2.2.2.1)) (As := as'.map (am_cv B S)) (b := am_ad B S k ii) (rest := rest.map (am_cv B S)) ⟨hx, hb, hml, hown, hts⟩ hM (cwV (am_np en.2.2.2.1) hts (am_good _ (fun w hw => ?_)) rfl rfl rfl ⟨hpl.2.1, hpl.2.2.1, hpl.2.2.2.1, hpl.2.2.2.2.1⟩ hrm) ⟨am_blind, ?_, hPc⟩ rfl ?_ hlc ?_ hcat hd hfit) hS hfin
          · unfold wsV at hw
            rcases List.mem_append.mp hw with h | h
            · simp only [List.mem_cons, List.not_mem_nil, or_false] at h
              rcases h with rfl | rfl | rfl | rfl
              · exact am_g (am_ML_ok _ hML) rfl
              · exact am_g (hmo.2.2.1 hmk).1 rfl
              · exact am_g (hmo.2.2.1 hmk).2 rfl
              · exact am_g hmo.2.1 rfl
            · exact am_wsmin hb194 w h
          · rw [← hkk]; exact hrec
          · rw [List.length_map]
            have : as'.length + 1 = t.length := by
              have := congrArg List.length ht3
              rw [List.length_reverse, List.length_cons] at this
              exact this
            omega
          · have h7 : t = as'.reverse ++ [Sum.inr (Sum.inr (Sum.inl (k, ii)))] := by
              have := congrArg List.reverse ht3
              rw [List.reverse_reverse, List.reverse_cons] at this
              exact this.symm
            show st.map (am_cv B S) = _
            rw [ht1, h7]
            simp only [List.map_append, List.map_cons, List.map_nil, List.map_reverse, List.append_assoc, List.cons_append, List.nil_append]
            rfl
        · cases hthi
      · rename_i x hins
        rw [hins] at haux hd hln
        simp only [am_aux, decide_eq_true_eq] at haux
        have hl3 : en.2.1 = 3 := hln.elim id (fun h => absurd (show 3 = 0 from h) (by decide))
        rw [hl3] at hd
        rcases haux with ⟨hd0, hML, hmk, hcn, -⟩ | z | z | z
        · refine am_go (va_runS (As := as.map (am_cv B S)) (rest := rest.map (am_cv B S)) ⟨hx, hb, hml, hown, hts⟩ hM ⟨callB_of (am_np en.2.2.2.1) hts (am_good _ (am_wsmin hb194)) rfl rfl rfl (by rw [hpl.2.1]; exact hts _ (am_g hmo.2.1 rfl)) (hts _ (am_g (am_ML_ok _ hML) rfl)) ⟨hpl.2.2.1, hpl.2.2.2.1, hpl.2.2.2.2.1⟩ hrm, hts _ (am_g (hmo.2.2.2.1 hmk) rfl)⟩ ⟨am_blind, hPc⟩ rfl ?_ hlc ?_ hcat hd hfit) hS hfin
          · rw [List.length_map, ht3, List.length_reverse, ht2]; omega
          · show st.map (am_cv B S) = _
            rw [ht1, ht3]
            simp only [List.map_append, List.map_reverse, List.reverse_reverse]
        · exact absurd hc.2.1 (by omega)
        · exact absurd hc.2.1 (by omega)
        · exact absurd hc.2.1 (by omega)
      · rename_i x hins
        rw [hins] at haux hd hln
        simp only [am_aux, decide_eq_true_eq] at haux
        have hl3 : en.2.1 = 3 := hln.elim id (fun h => absurd (show 3 = 0 from h) (by decide))
        rw [hl3] at hd
        have hthi : am_thi N en.2.2.2.1 as = true := hc.2.2.2.2.2.2.resolve_left (by rcases haux with z | z | z <;> omega)
        unfold am_thi at hthi
        split at hthi
        · rename_i k ii as'
          have hnl : ∀ mk, mk = am_mk en.2.2.2.1 → mk = 2 → am_rt en.2.2.2.1 = none := fun mk h1 h2 => (hpl.2.2.2.2.2 (by omega)).2
          have hstk : st.map (am_cv B S) = (as'.map (am_cv B S)).reverse ++ Value.ref (am_ad B S k ii) :: rest.map (am_cv B S) := by
            have h7 : t = as'.reverse ++ [Sum.inr (Sum.inr (Sum.inl (k, ii)))] := by
              have := congrArg List.reverse ht3
              rw [List.reverse_reverse, List.reverse_cons] at this
              exact this.symm
            rw [ht1, h7]
            simp only [List.map_append, List.map_cons, List.map_nil, List.map_reverse, List.append_assoc, List.cons_append, List.nil_append]
            rfl
          have hlen' : as'.length + 1 = t.length := by
            have := congrArg List.length ht3
            rw [List.length_reverse, List.length_cons] at this
            exact this
          rcases haux with ⟨hd0, hML, hmk, hcn, -⟩ | ⟨hd0, hMN, hmk, hcn, -⟩ | z
          · have hrn := hnl _ rfl hmk
            have hM2 := hM
            unfold am_wsm at hM2
            rw [hrn] at hM2
            refine am_go (va_runI (As := as'.map (am_cv B S)) (b := am_ad B S k ii) (rest := rest.map (am_cv B S)) ⟨hx, hb, hml, hown, hts⟩ hM2 (cwI (am_np en.2.2.2.1) hts (am_good _ (fun w hw => ?_)) rfl rfl rfl (by rw [hpl.2.1]; exact hts _ (am_g hmo.2.1 rfl)) (hts _ (am_g (am_ML_ok _ hML) rfl)) (hts _ (am_g (hmo.2.2.2.2 hmk) rfl)) (hpl.2.2.2.2.2 hmk).1 ⟨hpl.2.2.1, hpl.2.2.2.1, hpl.2.2.2.2.1⟩ hrm) ⟨am_blind, hPc⟩ rfl (by rw [List.length_map]; omega) hlc hstk hcat hd hfit) hS hfin
            have := am_wsmin hb194 w
            unfold am_wsm at this
            rw [hrn] at this
            exact this hw
          · have hrn := hnl _ rfl hmk
            have hM2 := hM
            unfold am_wsm at hM2
            rw [hrn] at hM2
            refine am_go (va_runIN (As := as'.map (am_cv B S)) (b := am_ad B S k ii) (rest := rest.map (am_cv B S)) (host := "WordTerminator") ⟨hx, hb, hml, hown, hts⟩ hM2 ⟨va_cnB (am_np en.2.2.2.1) hts (am_good _ (fun w hw => ?_)) rfl rfl rfl (hKx.2.1 _ hMN) (by rw [hpl.2.1]; exact hts _ (am_g hmo.2.1 rfl)) ⟨hpl.2.2.1, hpl.2.2.2.1, hpl.2.2.2.2.1⟩ hrm, (hpl.2.2.2.2.2 hmk).1, hts _ (am_g (hmo.2.2.2.2 hmk) rfl)⟩ ⟨am_blind, hPc⟩ rfl (by rw [List.length_map]; omega) hlc hstk hcat hd hfit) hS hfin
            have := am_wsmin hb194 w
            unfold am_wsm at this
            rw [hrn] at this
            exact this hw
          · exact absurd hc.2.1 (by omega)
        · cases hthi
      · cases hisC
    · obtain ⟨a1, a2, a3, a4, a5, a6⟩ := am_stepok hk h1 hl hs hG hN
      obtain ⟨b1, b2, b3, b4⟩ := am_exok h2 hm a1 a2 a3 a6
      have m1 := am_so_mono a5
      have m2 := am_so_mono b3
      have hgo : ∀ (lc1 : Array Slot) (H1 : Heap) (locs1 : List Loc), lv_has lc1 (am_ml m) (am_lv B S 0 ls1) → am_HP cy D B S L xs g1 r1 N1 H1 → va_S (fun q => B ≤ q) H0 H1 locs1 → W p l e R s mi args below meth c H1 locs1 (cells + (N1 - N)) (slots + (am_so N1 - am_so N)) Q (F0 mi pc1 lc1 (st1.map (am_cv B S))) := by
        intro lc1 H1 locs1 hlv1 hHP1 hS1
        refine ih m pc1 ls1 st1 g1 r1 N1 v g' r' N' h2 hm a1 a2 (by rw [a4]; exact hlen) p e R s mi args below meth c Q H1 H0 locs1 _ _ lc1 hcx hlv1 hHP1 hS1 hX hSB hB0 (by omega) (by omega) ?_
        intro i1 a1' b1' c1' d1' pc2 lc2 st2 H2 locs2 hk9 hd9 hr9 hs9 hHP2 hS2
        rw [show cells + (N1 - N) + (N' - N1) = cells + (N' - N) by omega, show slots + (am_so N1 - am_so N) + (am_so N' - am_so N1) = slots + (am_so N' - am_so N) by omega]
        exact hret i1 a1' b1' c1' d1' pc2 lc2 st2 H2 locs2 hk9 hd9 hr9 hs9 hHP2 hS2
      have hlc : c.maxLocals = lc.size := by rw [hml]; exact hlv.1.symm
      have nosw : ∀ {P : Prop}, am_ln en.1 = 0 → (∀ d' lo hi os, en.1 = .tableswitch d' lo hi os → P) → (∀ d' ps, en.1 = .lookupswitch d' ps → P) → P := by
        intro P h9 hp1 hp2
        unfold am_ln at h9
        split at h9
        all_goals first | (cases h9; done) | (rename_i z; exact hp1 _ _ _ _ z) | (rename_i z; exact hp2 _ _ z)
      rcases am_stepeq h1 with ⟨w, q1, q2⟩ | ⟨w, q1, q2⟩ | ⟨w, q1, q2⟩ | ⟨w, q1, q2⟩ | ⟨w, q1, q2⟩ | ⟨w, q1, q2⟩ | ⟨w, q1, q2⟩
      · cases q2
        have hl3 : en.2.1 = am_ln en.1 := hln.elim id (fun h9 => nosw h9 (fun _ _ _ _ z => by rw [z] at q1; cases q1) (fun _ _ z => by rw [z] at q1; cases q1))
        rw [hl3] at hd hgo
        rw [Nat.sub_self, Nat.sub_self] at hgo
        exact am_simld hx hb hlv hd q1 (hgo lc H locs hlv hHP hS)
      · cases q2
        have hl3 : en.2.1 = am_ln en.1 := hln.elim id (fun h9 => nosw h9 (fun _ _ _ _ z => by rw [z] at q1; cases q1) (fun _ _ z => by rw [z] at q1; cases q1))
        rw [hl3] at hd hgo
        rw [Nat.sub_self, Nat.sub_self] at hgo
        exact am_simcst hx hb hown hts haux hd q1 (hgo lc H locs hlv hHP hS)
      · cases q2
        have hl3 : en.2.1 = am_ln en.1 := hln.elim id (fun h9 => nosw h9 (fun _ _ _ _ z => by rw [z] at q1; cases q1) (fun _ _ z => by rw [z] at q1; cases q1))
        rw [hl3] at hd hgo
        rw [Nat.sub_self, Nat.sub_self] at hgo
        exact am_simsto hx hb hlv hlen hd q1 (fun lc' h' => hgo lc' H locs h' hHP hS)
      · cases q2
        have hl3 : en.2.1 = am_ln en.1 := hln.elim id (fun h9 => nosw h9 (fun _ _ _ _ z => by rw [z] at q1; cases q1) (fun _ _ z => by rw [z] at q1; cases q1))
        rw [hl3] at hd hgo
        rw [Nat.sub_self, Nat.sub_self] at hgo
        exact am_simop hx hb hs hd q1 (hgo lc H locs hlv hHP hS)
      · cases q2
        rw [Nat.sub_self, Nat.sub_self] at hgo
        exact am_simbr hx hb hs haux hd hln q1 (hgo lc H locs hlv hHP hS)
      · cases q2
        have hl3 : en.2.1 = am_ln en.1 := hln.elim id (fun h9 => nosw h9 (fun _ _ _ _ z => by rw [z] at q1; cases q1) (fun _ _ z => by rw [z] at q1; cases q1))
        rw [hl3] at hd hgo
        rw [Nat.sub_self, Nat.sub_self] at hgo
        exact am_simhp hx hb hlc hts hown hini hKx hfr hlo (by omega) (by omega) hHP hS hX hSB hB0 hs haux hd q1 (fun H1 locs1 h' h'' => hgo lc H1 locs1 hlv h' h'')
      · obtain ⟨o1, o2, o3, o4⟩ := am_nwok q1 hs hG
        cases q2
        have hl3 : en.2.1 = am_ln en.1 := hln.elim id (fun h9 => nosw h9 (fun _ _ _ _ z => by rw [z] at q1; cases q1) (fun _ _ z => by rw [z] at q1; cases q1))
        rw [hl3] at hd hgo
        have e1 : w.2.2.2 - N = 1 := by omega
        have e2 : am_so w.2.2.2 - am_so N = am_cs N := by
          rw [o3]
          show am_so N + am_cs N - am_so N = _
          omega
        rw [e1, e2] at hgo
        exact am_simnw hx hb hts hown hKx (by omega) (by omega) hHP hS hs haux hd q1 (fun H1 locs1 h' h'' => hgo lc H1 locs1 hlv h' h'')
