/-! the law's loop. Written by wip/gen/gen68.py -/
section KEEP
variable {s g r : GI} {N : Nat} {st : List AV}
theorem set_34 {k k' : Nat} {i x v : Int} (h : k < 34) (h' : 34 ≤ k') : gset g k i x v k' = g k' := gset_kf (by omega)
theorem hp_34 {i : Instr} {a : Int} {b d : Nat} {q : List AV × GI × GI} (h : am_hp i a b d g r N st = some q) {k : Nat} (hk : 34 ≤ k) : q.2.1 k = g k := by
  unfold am_hp at h
  split at h
  · unfold am_getf at h
    split at h
    · split at h
      · split at h
        · split at h
          · cases h; rfl
          · cases h
        · cases h; rfl
      · cases h
    · cases h
  · unfold am_putf at h
    split at h
    · split at h
      · rename_i hc
        cases h
        exact set_34 (okA_lt hc.2.2.1) hk
      · cases h
    · split at h
      · cases h; rfl
      · cases h
    · cases h
  · unfold am_ald at h
    split at h
    · split at h
      · cases h; rfl
      · cases h
    · cases h
  · unfold am_ald at h
    split at h
    · split at h
      · cases h; rfl
      · cases h
    · cases h
  · unfold am_rld at h
    split at h
    · split at h
      · cases h; rfl
      · cases h
    · cases h
  · unfold am_ast at h
    split at h
    · split at h
      · rename_i hc
        cases h
        exact set_34 (okA_lt hc.1) hk
      · cases h
    · cases h
  · unfold am_lst at h
    split at h
    · split at h
      · rename_i hc
        cases h
        exact set_34 (okA_lt hc.1) hk
      · cases h
    · cases h
  · unfold am_rst at h
    split at h
    · split at h
      · cases h; rfl
      · cases h
    · cases h
  · unfold am_aln at h
    split at h
    · split at h
      · cases h; rfl
      · cases h
    · cases h
  · split at h
    · unfold am_obi at h
      split at h
      · cases h; rfl
      · cases h
    · cases h
  · split at h
    · unfold am_acp at h
      split at h
      · split at h
        · rename_i hc
          cases h
          have := okA_lt hc.2.1
          exact gcpy_kf (by omega)
        · cases h
      · cases h
    · split at h
      · unfold am_mx at h
        split at h
        · split at h
          · cases h; rfl
          · cases h
        · cases h
      · split at h
        · unfold am_mn at h
          split at h
          · split at h
            · cases h; rfl
            · cases h
          · cases h
        · cases h
  · cases h
theorem mk1_34 {t : List AV} {q : List AV × GI × GI × Nat} (hN : N < 108) (h : am_mk1 g r N t = some q) {k : Nat} (hk : 34 ≤ k) : q.2.1 k = g k := by
  unfold am_mk1 at h
  cases h
  have := lay_lt N hN
  funext i x
  show gfil g (am_lay N).1 (am_lay N).2 0 k i x = g k i x
  unfold gfil
  rw [if_neg (fun z => by omega)]
theorem nw_34 {i : Instr} {a : Int} {q : List AV × GI × GI × Nat} (h : am_nw i a g r N st = some q) {k : Nat} (hk : 34 ≤ k) : q.2.1 k = g k := by
  unfold am_nw at h
  split at h
  · split at h
    · rename_i hc
      exact mk1_34 hc.1 h hk
    · cases h
  · unfold am_na at h
    split at h
    · split at h
      · rename_i hc
        exact mk1_34 hc.1 h hk
      · cases h
    · cases h
  · unfold am_na at h
    split at h
    · split at h
      · rename_i hc
        exact mk1_34 hc.1 h hk
      · cases h
    · cases h
  · cases h
theorem step_34 {e : EI} {pc : Nat} {ls : List AV} {q : Nat × List AV × List AV × GI × GI × Nat} (h : am_step e pc ls st g r N = some q) {k : Nat} (hk : 34 ≤ k) : q.2.2.2.1 k = g k := by
  unfold am_step at h
  split at h
  · cases h; rfl
  · split at h
    · cases h; rfl
    · split at h
      · cases h; rfl
      · split at h
        · cases h; rfl
        · split at h
          · cases h; rfl
          · split at h
            · rename_i hq
              cases h
              exact hp_34 hq hk
            · split at h
              · rename_i hq
                cases h
                exact nw_34 hq hk
              · cases h
end KEEP
theorem ex_34 {k : Nat} (hk : 34 ≤ k) : ∀ {n m pc : Nat} {ls st : List AV} {g r : GI} {N : Nat} {v : Option AV} {g' r' : GI} {N' : Nat}, am_ex n m pc ls st g r N = some (v, g', r', N') → g' k = g k
  | 0, _, _, _, _, _, _, _, _, _, _, _, h => by cases h
  | n + 1, m, pc, ls, st, g, r, N, v, g', r', N', h => by
    rw [am_ex] at h
    cases h1 : am_code m pc with
    | none => rw [h1] at h; cases h
    | some e =>
      rw [h1] at h
      dsimp only at h
      cases h2 : am_ret e.1 (am_rt m) st with
      | some v => rw [h2] at h; cases h; rfl
      | none =>
        rw [h2] at h
        dsimp only at h
        cases h3 : am_cal e.1 e.2.2.2.1 e.2.2.2.2.1 e.2.2.2.2.2 N st with
        | some q =>
          obtain ⟨as, rest⟩ := q
          rw [h3] at h
          dsimp only at h
          cases h4 : am_ex n e.2.2.2.1 0 (am_ini e.2.2.2.1 as) [] g r N with
          | none => rw [h4] at h; cases h
          | some q =>
            obtain ⟨v1, g1, r1, N1⟩ := q
            rw [h4] at h
            dsimp only at h
            exact (ex_34 hk h).trans (ex_34 hk h4)
        | none =>
          rw [h3] at h
          dsimp only at h
          cases h4 : am_step e pc ls st g r N with
          | none => rw [h4] at h; cases h
          | some q =>
            obtain ⟨pc1, ls1, st1, g1, r1, N1⟩ := q
            rw [h4] at h
            dsimp only at h
            exact (ex_34 hk h).trans (step_34 h4 hk)
theorem rt_34 {b : Nat} {as : List AV} {g r g1 r1 : GI} {v : Option AV} (h : Rt b as g r v g1 r1) : g1 34 = g 34 ∧ g1 35 = g 35 := by
  obtain ⟨n, e⟩ := h
  exact ⟨ex_34 (by decide) e, ex_34 (by decide) e⟩
/-- what a method answers is of its kind -/
theorem ret_of {m pc : Nat} {e : EI} {st : List AV} {v : Option AV} (hm : m < 195) (h1 : am_code m pc = some e) (h2 : am_ret e.1 (am_rt m) st = some v) : (am_rt m = some .int → ∃ x, v = some (vI x)) ∧ (am_rt m = some .long → ∃ x, v = some (vL x)) := by
  have hc := am_chk_of hm h1
  unfold am_chk at hc
  rw [Bool.and_eq_true, Bool.and_eq_true] at hc
  have ha := hc.2.2
  obtain ⟨i, rest⟩ := e
  dsimp only at h2 ha
  unfold am_ret at h2
  split at h2
  · split at h2
    · cases h2
      refine ⟨fun _ => ⟨_, rfl⟩, fun z => ?_⟩
      have ha := of_decide_eq_true ha
      rw [z] at ha
      rcases ha with ha | ha <;> cases ha
    · cases h2
  · cases h2
    refine ⟨fun z => ?_, fun _ => ⟨_, rfl⟩⟩
    have ha := of_decide_eq_true ha
    rw [z] at ha
    cases ha
  · cases h2
    have ha := of_decide_eq_true ha
    exact ⟨fun z => (by rw [z] at ha; cases ha), fun z => (by rw [z] at ha; cases ha)⟩
  · cases h2
    have ha := of_decide_eq_true ha
    exact ⟨fun z => (by rw [z] at ha; cases ha), fun z => (by rw [z] at ha; cases ha)⟩
  · cases h2
theorem ex_ret : ∀ {n m pc : Nat} {ls st : List AV} {g r : GI} {N : Nat} {v : Option AV} {g' r' : GI} {N' : Nat}, m < 195 → am_ex n m pc ls st g r N = some (v, g', r', N') → (am_rt m = some .int → ∃ x, v = some (vI x)) ∧ (am_rt m = some .long → ∃ x, v = some (vL x))
  | 0, _, _, _, _, _, _, _, _, _, _, _, _, h => by cases h
  | n + 1, m, pc, ls, st, g, r, N, v, g', r', N', hm, h => by
    rw [am_ex] at h
    cases h1 : am_code m pc with
    | none => rw [h1] at h; cases h
    | some e =>
      rw [h1] at h
      dsimp only at h
      cases h2 : am_ret e.1 (am_rt m) st with
      | some w => rw [h2] at h; cases h; exact ret_of hm h1 h2
      | none =>
        rw [h2] at h
        dsimp only at h
        cases h3 : am_cal e.1 e.2.2.2.1 e.2.2.2.2.1 e.2.2.2.2.2 N st with
        | some q =>
          obtain ⟨as, rest⟩ := q
          rw [h3] at h
          dsimp only at h
          cases h4 : am_ex n e.2.2.2.1 0 (am_ini e.2.2.2.1 as) [] g r N with
          | none => rw [h4] at h; cases h
          | some q =>
            obtain ⟨v1, g1, r1, N1⟩ := q
            rw [h4] at h
            dsimp only at h
            exact ex_ret hm h
        | none =>
          rw [h3] at h
          dsimp only at h
          cases h4 : am_step e pc ls st g r N with
          | none => rw [h4] at h; cases h
          | some q =>
            obtain ⟨pc1, ls1, st1, g1, r1, N1⟩ := q
            rw [h4] at h
            dsimp only at h
            exact ex_ret hm h
section LAW
variable {c : Int} {g r : GI} {m7 m8 : Nat} {as : List AV}
theorem lawI (p : Pr m7 m8 as) (hm : m7 < 195) (ht : am_rt m7 = some .int) (c0 : 0 ≤ c) (c1 : c ≤ 3072) (hI : Iv c g g r) : ∃ x g1 r1 g2 r2, Rt m7 (vR 7 0 :: as) g r (some (vI x)) g1 r1 ∧ (g1 34 = g 34 ∧ g1 35 = g 35) ∧ Rt m8 (vR 8 0 :: as) g1 r1 (some (vI x)) g2 r2 ∧ Iv (c + 1) g2 g2 r2 ∧ g2 34 = g 34 ∧ g2 35 = g 35 := by
  obtain ⟨v, g1, r1, h1, g2, r2, h2, h3, h4⟩ := rt_ex (p c g r c0 c1 hI)
  obtain ⟨n, e⟩ := id h1
  obtain ⟨x, hx⟩ := (ex_ret hm e).1 ht
  subst hx
  exact ⟨x, g1, r1, g2, r2, h1, rt_34 h1, h2, h3, h4⟩
theorem lawL (p : Pr m7 m8 as) (hm : m7 < 195) (ht : am_rt m7 = some .long) (c0 : 0 ≤ c) (c1 : c ≤ 3072) (hI : Iv c g g r) : ∃ x g1 r1 g2 r2, Rt m7 (vR 7 0 :: as) g r (some (vL x)) g1 r1 ∧ (g1 34 = g 34 ∧ g1 35 = g 35) ∧ Rt m8 (vR 8 0 :: as) g1 r1 (some (vL x)) g2 r2 ∧ Iv (c + 1) g2 g2 r2 ∧ g2 34 = g 34 ∧ g2 35 = g 35 := by
  obtain ⟨v, g1, r1, h1, g2, r2, h2, h3, h4⟩ := rt_ex (p c g r c0 c1 hI)
  obtain ⟨n, e⟩ := id h1
  obtain ⟨x, hx⟩ := (ex_ret hm e).2 ht
  subst hx
  exact ⟨x, g1, r1, g2, r2, h1, rt_34 h1, h2, h3, h4⟩
end LAW
