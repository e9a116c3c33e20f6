/-! THE CLAIM OUT OF ONE WALK OF THE LAW'S BODY. Your part is whole_start (and what it stands on); all else here is the same for every law, but numbers. -/
def R_law : String := "WordTerminatorLaw"
def lw_P (b : Addr) (xs : List Int32) (args : Array Value) (s : State) : Prop := args = #[.ref b] ∧ s.IntsAt b xs ∧ xs.length ≤ 3072 ∧ (Jvm.Cond.and given_1 narrow_1).before args s = true
def lw_Q (_ : Array Value) (s : State) (o : Outcome) (t : State) : Prop := o = .returned (some (.int 1)) ∧ Framed s o t [] 600000 7302249
def lw_Z (below : List Frame) (a : Array Value) (s : State) : State → Prop := fun t => ∃ o, t.status = .running ∧ Ended t below o ∧ lw_Q a s o t
/-- the law's own end, with 1 on the stack, nothing written that was there before, its room as the claim has it -/
theorem lw_ret {p : Program} {l : Launch} {e : Env} {s : State} {m : MethodId} {below : List Frame} {meth : Method} {c : Code} {b : Nat} (hx : p.tables.exec = Jvm.exec) (hb : c.code = code) (hr : meth.sig.returnType = ret) (hlocks : meth.locks = false) {pc : Nat} {H : Heap} {ls : Array Slot} (hdg : decode code pc = .ok (.ireturn, 1)) : W p l e room_1 s m #[Value.ref b] below meth c H [] 600000 7302249 (lw_Z below #[Value.ref b] s) (F0 m pc ls [.int 1]) := by
  intro T hT X
  obtain ⟨fs, hret, hrun, hended, hW, hframe⟩ := X.leave (v := some (.int 1)) (hlocks := hlocks) (fun h => by rw [hr] at h; cases h)
  have hmeth' : T.vm.method? m = some meth := X.method'
  refine ⟨T.setFrames fs, ?_, .returned (some (.int 1)), hrun, hended, rfl, ⟨_, rfl⟩, hW, hframe⟩
  jvm_step X.here [X.here.top, hx, hb, hdg, hmeth', hr, ret, narrow_b1]
  (try refine ⟨rfl, ?_⟩); (try refine ⟨rfl, ?_⟩)
  first | (intro acts; rw [hret _ acts rfl rfl rfl]) | rw [hret _ _ rfl rfl rfl]
  exact Steps.refl _
/-- what holds at the law's entry: the machine, the code, the tables' words (any of lw_tbl by 'hts w (by decide +kernel)'), the script of L ints xs at the cell b, what the Statement gives of the start (any of its parts by flat_of_before) -/
def lw_At (p : Program) (s : State) (m : MethodId) (meth : Method) (c : Code) (b L : Nat) (xs : Nat → Int32) : Prop :=
  p.tables.exec = Jvm.exec ∧ c.code = code ∧ meth.sig.returnType = ret ∧ c.maxLocals = 4 ∧ s.vm.findClass R_law = some m.cls ∧ (∀ w ∈ lw_tbl, w.before #[Value.ref b] s = true) ∧ va_X b L xs s s.heap ∧ b < s.heap.size ∧ meth.locks = false ∧ (Jvm.Cond.and given_1 narrow_1).before #[Value.ref b] s = true
/-- the heap at the start: the script alone -/
def am_gs (L : Nat) (xs : Nat → Int32) : GI := fun k i s => if k = 34 ∧ i = 0 then (xs s.toNat).toInt else if k = 35 then (L : Int) else 0
def am_rs : GI := fun _ _ _ => -1
theorem am_gsok {L : Nat} {xs : Nat → Int32} (hL : L ≤ 3072) : am_okG (am_gs L xs) := by
  intro k i s
  unfold am_gs
  split
  · exact ⟨am_inIL (am_i32 _), fun _ => am_i32 _⟩
  · split
    · exact ⟨⟨by omega, by omega⟩, fun _ => ⟨by omega, by omega⟩⟩
    · exact ⟨⟨by omega, by omega⟩, fun _ => ⟨by omega, by omega⟩⟩
theorem am_soNA : am_so NA ≤ 7302249 := by decide +kernel
theorem am_Kof {s : State} {args : Array Value} (hts : ∀ w ∈ lw_tbl, w.before args s = true) : ∃ (cy : Nat → ClassId) (D : va_G), am_Kx cy D s := by
  have hin : ∀ k, k < 9 → ∀ w ∈ u_ws (am_cn k) (am_TT k) (am_nf k), w ∈ lw_tbl := am_fw
  have hk : ∀ k, ∃ (q : ClassId × (Nat → Nat)), k < 9 → u_Kn s (am_cn k) (am_TT k) (am_nf k) q.1 q.2 := by
    intro k
    by_cases h : k < 9
    · obtain ⟨c0, i0, h0⟩ := u_known hts (hin k h) (hts _ (am_insw k h))
      exact ⟨(c0, i0), fun _ => h0⟩
    · exact ⟨(0, fun _ => 0), fun z => absurd z h⟩
  have hi : ∀ {ty : FieldType}, (∀ C, ty ≠ .object C) → Cond.arrayClass ty ∈ lw_tbl → ∃ cA, ArrOfT s cA ty ∧ va_RA s cA ty := by
    intro ty hty hw
    obtain ⟨cA, kA, comp, h1, h2, h3⟩ := Cond.arrayClass_spec (hts _ hw)
    refine ⟨cA, fun n z => ⟨fun k h => (by cases h), kA, h2, comp, h3⟩, ?_⟩
    cases ty <;> first | exact h1 | exact absurd rfl (hty _)
  have ho : ∀ {C : String}, Cond.arrayOver (.object C) ∈ lw_tbl → ∃ cA, ArrOfT s cA (.object C) ∧ va_RA s cA (.object C) := by
    intro C hw
    obtain ⟨comp, cA, k, h1, h2, h3, h4, h5⟩ := Cond.arrayOver_spec (hts _ hw)
    exact ⟨cA, fun n z => ⟨fun k h => (by cases h), k, h3, comp, h4⟩, k, comp, h3, h4, h1, h5⟩
  obtain ⟨c0, a0⟩ := hi (ty := .int) (fun C h => by cases h) am_arrw.1
  obtain ⟨c1, a1⟩ := hi (ty := .long) (fun C h => by cases h) am_arrw.2
  obtain ⟨c2, a2⟩ := ho am_aow.1
  obtain ⟨c3, a3⟩ := ho am_aow.2.1
  obtain ⟨c4, a4⟩ := ho am_aow.2.2
  refine ⟨fun k => match k with | 0 => c0 | 1 => c1 | 2 => c2 | 3 => c3 | _ => c4, (fun k => (Classical.choose (hk k)).1, fun k => (Classical.choose (hk k)).2), ⟨fun k q hq => ?_, fun k q hq => ?_⟩, fun q hq => va_Nw.of rfl (hts _ (am_MN_ok q hq)), va_AO.of (hts _ am_aow.1), va_AO.of (hts _ am_aow.2.1), va_AO.of (hts _ am_aow.2.2)⟩
  · have h9 : k < 9 := (List.getElem?_eq_some_iff.mp hq).1
    rw [am_cl k h9] at hq
    cases hq
    exact Classical.choose_spec (hk k) h9
  · match k, hq with
    | 0, hq => cases hq; exact a0
    | 1, hq => cases hq; exact a1
    | 2, hq => cases hq; exact a2
    | 3, hq => cases hq; exact a3
    | 4, hq => cases hq; exact a4
    | k + 5, hq => simp [am_tys] at hq
/-- the law, out of a run of the abstract machine -/
theorem am_entry (run : ∀ (L : Nat) (xs : Nat → Int32), L ≤ 3072 → ∃ n g' r' N', am_ex n 194 0 [vR 34 0, vN, vN, vN] [] (am_gs L xs) am_rs 0 = some (some (vI 1), g', r', N'))
    {p : Program} {e : Env} {s : State} {m : MethodId} {below : List Frame} {meth : Method} {c : Code} (l : Launch) {b L : Nat} {xs : Nat → Int32} (hL : L ≤ 3072) (C0 : lw_At p s m meth c b L xs) : W p l e room_1 s m #[Value.ref b] below meth c s.heap [] 0 0 (lw_Z below #[Value.ref b] s) (entryFrame m ([Value.ref b] : List Value).toArray 4) := by
  obtain ⟨hx, hb, hr, hml, hown, hts, hX, hbl, hlocks, hgv⟩ := C0
  obtain ⟨cy, D, hKx⟩ := am_Kof hts
  obtain ⟨n, g', r', N', hrun⟩ := run L xs hL
  have hok : am_okL [vR 34 0, vN, vN, vN] := by
    intro v hv
    simp only [List.mem_cons, List.not_mem_nil, or_false] at hv
    rcases hv with rfl | rfl | rfl | rfl <;> trivial
  have hG := am_gsok (xs := xs) hL
  obtain ⟨-, -, -, hN'⟩ := am_exok hrun (by decide) hok (fun _ h => by cases h) hG (Nat.zero_le _)
  have hso : am_so N' ≤ 7302249 := Nat.le_trans (am_so_mono hN') am_soNA
  rw [lg_entry_eq]
  have hl0 := lv_entry ([Value.ref b]) (n := 4) (Nat.le_of_ble_eq_true rfl)
  have hHP : am_HP cy D s.heap.size b L xs (am_gs L xs) am_rs 0 s.heap := by
    refine ⟨fun k q h => by simp [am_ws] at h, fun _ => by omega, Nat.zero_le _, hG, rfl, fun j hj => ?_⟩
    show Int32.ofInt ((xs j).toInt) = xs j
    exact Int32.ofInt_toInt _
  refine am_sim l cy D s.heap.size b L xs hbl n 194 0 [vR 34 0, vN, vN, vN] [] (am_gs L xs) am_rs 0 _ g' r' N' hrun (by decide) hok (fun _ h => by cases h) rfl p e room_1 s m #[Value.ref b] below meth c _ s.heap s.heap [] 0 0 _ ⟨hx, hb, hml, hown, fun w hw => hts w (List.mem_filter.mp hw).1, hKx, fun h => absurd h (by decide), by decide, by decide⟩ hl0 hHP va_S.rf hX hbl (Nat.le_refl _) (by show 0 + (N' - 0) ≤ 600000; have : NA = 108 := rfl; omega) (by show 0 + (am_so N' - am_so 0) ≤ 7302249; omega) ?_
  intro i1 a1 b1 c1 d1 pc1 lc1 st1 H1 locs1 hk hd hret hst hHP1 hS1
  unfold am_ret at hret
  split at hret
  · split at hret
    · cases hret
      refine va_forget (fun q hq => hS1.2.2 q hq) ?_
      refine W.widen (k := 600000) (n := 7302249) (by have : NA = 108 := rfl; omega) (by omega) ?_
      exact lw_ret hx hb hr hlocks hd
    · cases hret
  · cases hret
  · cases hret
  · cases hret
  · cases hret
