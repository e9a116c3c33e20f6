/-! the script's cells do not matter to the makers. Written by wip/gen/gen66.py -/
def pt (s g : GI) : GI := fun k i x => if k < 34 then g k i x else s k i x
section PT
variable {s g r : GI} {N : Nat} {st : List AV}
theorem pt_r {k : Nat} (h : k < 34) : pt s g k = g k := by funext i x; unfold pt; rw [if_pos h]
theorem pt_o {k : Nat} (h : ¬ k < 34) : pt s g k = s k := by funext i x; unfold pt; rw [if_neg h]
theorem pt_set {k : Nat} {i x v : Int} (h : k < 34) : gset (pt s g) k i x v = pt s (gset g k i x v) := by
  funext k' i' x'
  unfold pt gset
  by_cases e : k' = k ∧ i' = i ∧ x' = x
  · rw [if_pos e, if_pos (by omega), if_pos e]
  · rw [if_neg e, if_neg e]
theorem pt_fil {k : Nat} {i v : Int} (h : k < 34) : gfil (pt s g) k i v = pt s (gfil g k i v) := by
  funext k' i' x'
  unfold pt gfil
  by_cases e : k' = k ∧ i' = i
  · rw [if_pos e, if_pos (by omega), if_pos e]
  · rw [if_neg e, if_neg e]
theorem pt_cpy {k1 k2 : Nat} {i1 p1 i2 p2 n : Int} (h1 : k1 < 34) (h2 : k2 < 34) : gcpy (pt s g) k1 i1 p1 k2 i2 p2 n = pt s (gcpy g k1 i1 p1 k2 i2 p2 n) := by
  funext k' i' x'
  unfold gcpy
  rw [pt_r h1]
  unfold pt
  dsimp only
  by_cases e : k' = k2 ∧ i' = i2 ∧ p2 ≤ x' ∧ x' < p2 + n
  · rw [if_pos e, if_pos (by omega), if_pos e]
  · rw [if_neg e, if_neg e]
theorem okA_lt {k : Nat} {i : Int} (h : am_okA N k i = true) : k < 34 := by
  unfold am_okA at h
  rw [Bool.and_eq_true] at h
  have := Nat.le_of_ble_eq_true h.1
  omega
theorem okS_lt {k : Nat} {i : Int} (h : am_okS N k i = true) (e : Nat.beq k 34 = false) : k < 34 := by
  unfold am_okS at h
  rw [e, Bool.false_and, Bool.or_false] at h
  exact okA_lt h
def ptm (s : GI) : List AV × GI × GI → List AV × GI × GI := fun q => (q.1, pt s q.2.1, q.2.2)
def ptn (s : GI) : List AV × GI × GI × Nat → List AV × GI × GI × Nat := fun q => (q.1, pt s q.2.1, q.2.2)
theorem getf_pt {a : Int} {b : Nat} : am_getf a b (pt s g) r N st = (am_getf a b g r N st).map (ptm s) := by
  rcases st with _ | ⟨v, t⟩
  · rfl
  · rcases v with x | x | ⟨k, i⟩ | u
    · rfl
    · rfl
    · unfold am_getf
      dsimp only
      by_cases c : k = b ∧ k < 9 ∧ am_okA N k i = true
      · rw [if_pos c, if_pos c]
        by_cases d : am_ft k a = 2
        · rw [if_pos d, if_pos d]
          by_cases e : 0 ≤ r k i a
          · rw [if_pos e, if_pos e]; rfl
          · rw [if_neg e, if_neg e]; rfl
        · rw [if_neg d, if_neg d, pt_r (okA_lt c.2.2)]; rfl
      · rw [if_neg c, if_neg c]; rfl
    · rfl
theorem putf_pt {a : Int} {b : Nat} : am_putf a b (pt s g) r N st = (am_putf a b g r N st).map (ptm s) := by
  rcases st with _ | ⟨v, _ | ⟨w, t⟩⟩
  · rfl
  · rcases v with x | x | ⟨k, i⟩ | u <;> rfl
  · rcases v with x | x | ⟨k2, i2⟩ | u
    · rcases w with y | y | ⟨k, i⟩ | u
      · rfl
      · rfl
      · unfold am_putf
        dsimp only
        by_cases c : k = b ∧ k < 9 ∧ am_okA N k i = true ∧ (am_ft k a = 0 ∨ (am_ft k a = 1 ∧ (x = 0 ∨ x = 1)))
        · rw [if_pos c, if_pos c, pt_set (okA_lt c.2.2.1)]; rfl
        · rw [if_neg c, if_neg c]; rfl
      · rfl
    · rcases w with y | y | ⟨k, i⟩ | u <;> rfl
    · rcases w with y | y | ⟨k, i⟩ | u
      · rfl
      · rfl
      · unfold am_putf
        dsimp only
        by_cases c : k = b ∧ k < 9 ∧ am_okA N k i = true ∧ am_ft k a = 2 ∧ am_tk k a = k2 ∧ am_okA N k2 i2 = true
        · rw [if_pos c, if_pos c]; rfl
        · rw [if_neg c, if_neg c]; rfl
      · rfl
    · rcases w with y | y | ⟨k, i⟩ | u <;> rfl
def bad2 : List AV → Bool
  | _ :: .inr (.inr (.inl (k, _))) :: _ => Nat.beq k 34
  | _ => false
def bad1 : List AV → Bool
  | .inr (.inr (.inl (k, _))) :: _ => Nat.beq k 34
  | _ => false
theorem len_pt {k : Nat} {i : Int} (e : Nat.beq k 34 = false) : am_len (pt s g) k i = am_len g k i := by
  have h : k ≠ 34 := fun z => by rw [z] at e; simp at e
  unfold am_len
  rw [if_neg h, if_neg h]
theorem ald_pt {a : Nat} (hb : bad2 st = false) : am_ald (pt s g) r N a st = (am_ald g r N a st).map (ptm s) := by
  rcases st with _ | ⟨v, _ | ⟨w, t⟩⟩
  · rfl
  · rcases v with x | x | ⟨k, i⟩ | u <;> rfl
  · rcases v with j | x | ⟨k2, i2⟩ | u
    · rcases w with y | y | ⟨k, i⟩ | u
      · rfl
      · rfl
      · have hb : Nat.beq k 34 = false := hb
        unfold am_ald
        dsimp only
        rw [len_pt hb]
        by_cases c : am_okS N k i = true ∧ am_ak k = a ∧ 0 ≤ j ∧ j < am_len g k i
        · rw [if_pos c, if_pos c, pt_r (okS_lt c.1 hb)]; rfl
        · rw [if_neg c, if_neg c]; rfl
      · rfl
    · rcases w with y | y | ⟨k, i⟩ | u <;> rfl
    · rcases w with y | y | ⟨k, i⟩ | u <;> rfl
    · rcases w with y | y | ⟨k, i⟩ | u <;> rfl
theorem aln_pt (hb : bad1 st = false) : am_aln (pt s g) r N st = (am_aln g r N st).map (ptm s) := by
  rcases st with _ | ⟨v, t⟩
  · rfl
  · rcases v with x | x | ⟨k, i⟩ | u
    · rfl
    · rfl
    · have hb : Nat.beq k 34 = false := hb
      unfold am_aln
      dsimp only
      rw [len_pt hb]
      by_cases c : am_okS N k i = true ∧ am_ak k ≠ 0
      · rw [if_pos c, if_pos c]; rfl
      · rw [if_neg c, if_neg c]; rfl
    · rfl
theorem rld_pt : am_rld (pt s g) r N st = (am_rld g r N st).map (ptm s) := by
  unfold am_rld
  split
  · split <;> rfl
  · rfl
theorem ast_pt : am_ast (pt s g) r N st = (am_ast g r N st).map (ptm s) := by
  unfold am_ast
  split
  · split
    · rename_i c
      rw [pt_set (okA_lt c.1)]; rfl
    · rfl
  · rfl
theorem lst_pt : am_lst (pt s g) r N st = (am_lst g r N st).map (ptm s) := by
  unfold am_lst
  split
  · split
    · rename_i c
      rw [pt_set (okA_lt c.1)]; rfl
    · rfl
  · rfl
theorem rst_pt : am_rst (pt s g) r N st = (am_rst g r N st).map (ptm s) := by
  unfold am_rst
  split
  · split <;> rfl
  · rfl
theorem obi_pt : am_obi (pt s g) r st = (am_obi g r st).map (ptm s) := by
  unfold am_obi
  split <;> rfl
theorem acp_pt : am_acp (pt s g) r N st = (am_acp g r N st).map (ptm s) := by
  unfold am_acp
  split
  · split
    · rename_i c
      rw [pt_cpy (okA_lt c.1) (okA_lt c.2.1)]; rfl
    · rfl
  · rfl
theorem mx_pt : am_mx (pt s g) r st = (am_mx g r st).map (ptm s) := by
  unfold am_mx
  split
  · split <;> rfl
  · rfl
theorem mn_pt : am_mn (pt s g) r st = (am_mn g r st).map (ptm s) := by
  unfold am_mn
  split
  · split <;> rfl
  · rfl
def am_bad (i : Instr) (st : List AV) : Bool := match i with
  | .iaload => bad2 st
  | .laload => bad2 st
  | .arraylength => bad1 st
  | _ => false
theorem hp_pt {i : Instr} {a : Int} {b d : Nat} (hb : am_bad i st = false) : am_hp i a b d (pt s g) r N st = (am_hp i a b d g r N st).map (ptm s) := by
  unfold am_hp
  split
  · exact getf_pt
  · exact putf_pt
  · exact ald_pt hb
  · exact ald_pt hb
  · exact rld_pt
  · exact ast_pt
  · exact lst_pt
  · exact rst_pt
  · exact aln_pt hb
  · split
    · exact obi_pt
    · rfl
  · split
    · exact acp_pt
    · split
      · exact mx_pt
      · split
        · exact mn_pt
        · rfl
  · rfl
theorem lay_lt : ∀ N : Nat, N < 108 → (am_lay N).1 < 34 := by decide +kernel
theorem mk1_pt {t : List AV} (h : N < 108) : am_mk1 (pt s g) r N t = (am_mk1 g r N t).map (ptn s) := by
  unfold am_mk1
  rw [pt_fil (lay_lt N h)]; rfl
theorem na_pt {a tk : Nat} : am_na a tk (pt s g) r N st = (am_na a tk g r N st).map (ptn s) := by
  unfold am_na
  split
  · split
    · rename_i c
      exact mk1_pt c.1
    · rfl
  · rfl
theorem nw_pt {i : Instr} {a : Int} : am_nw i a (pt s g) r N st = (am_nw i a g r N st).map (ptn s) := by
  unfold am_nw
  split
  · split
    · rename_i c
      exact mk1_pt c.1
    · rfl
  · exact na_pt
  · exact na_pt
  · rfl
def pts (s : GI) : Nat × List AV × List AV × GI × GI × Nat → Nat × List AV × List AV × GI × GI × Nat := fun q => (q.1, q.2.1, q.2.2.1, pt s q.2.2.2.1, q.2.2.2.2)
theorem step_pt {e : EI} {pc : Nat} {ls : List AV} (hb : am_bad e.1 st = false) : am_step e pc ls st (pt s g) r N = (am_step e pc ls st g r N).map (pts s) := by
  unfold am_step
  split
  · rfl
  · split
    · rfl
    · split
      · rfl
      · split
        · rfl
        · split
          · rfl
          · rw [hp_pt hb]
            cases am_hp e.1 e.2.2.1 e.2.2.2.1 e.2.2.2.2.2 g r N st with
            | some q => rfl
            | none =>
              simp only [Option.map_none]
              rw [nw_pt]
              cases am_nw e.1 e.2.2.1 g r N st with
              | some q => rfl
              | none => rfl
def am_ex2 : Nat → Nat → Nat → List AV → List AV → GI → GI → Nat → RS
  | 0, _, _, _, _, _, _, _ => none
  | n + 1, m, pc, ls, st, g, r, N =>
    match am_code m pc with
    | none => none
    | some e =>
      match am_ret e.1 (am_rt m) st with
      | some v => some (v, g, r, N)
      | none =>
        match am_cal e.1 e.2.2.2.1 e.2.2.2.2.1 e.2.2.2.2.2 N st with
        | some (args, rest) =>
          match am_ex2 n e.2.2.2.1 0 (am_ini e.2.2.2.1 args) [] g r N with
          | none => none
          | some (v, g', r', N') => am_ex2 n m (pc + 3) ls (am_psh v rest) g' r' N'
        | none =>
          match am_bad e.1 st with
          | true => none
          | false =>
            match am_step e pc ls st g r N with
            | none => none
            | some (pc', ls', st', g', r', N') => am_ex2 n m pc' ls' st' g' r' N'
end PT
theorem ex2_pt {s : GI} : ∀ {n m pc : Nat} {ls st : List AV} {g r : GI} {N : Nat} {v : Option AV} {g' r' : GI} {N' : Nat}, am_ex2 n m pc ls st g r N = some (v, g', r', N') → am_ex n m pc ls st (pt s g) r N = some (v, pt s g', r', N')
  | 0, _, _, _, _, _, _, _, _, _, _, _, h => by cases h
  | n + 1, m, pc, ls, st, g, r, N, v, g', r', N', h => by
    rw [am_ex2] at h
    rw [am_ex]
    cases h1 : am_code m pc with
    | none => rw [h1] at h; cases h
    | some e =>
      rw [h1] at h
      dsimp only at h ⊢
      cases h2 : am_ret e.1 (am_rt m) st with
      | some v => rw [h2] at h; cases h; rfl
      | none =>
        rw [h2] at h
        dsimp only at h ⊢
        cases h3 : am_cal e.1 e.2.2.2.1 e.2.2.2.2.1 e.2.2.2.2.2 N st with
        | some q =>
          obtain ⟨as, rest⟩ := q
          rw [h3] at h
          dsimp only at h ⊢
          cases h4 : am_ex2 n e.2.2.2.1 0 (am_ini e.2.2.2.1 as) [] g r N with
          | none => rw [h4] at h; cases h
          | some q =>
            obtain ⟨v, g1, r1, N1⟩ := q
            rw [h4] at h
            rw [ex2_pt h4]
            exact ex2_pt h
        | none =>
          rw [h3] at h
          dsimp only at h ⊢
          cases h5 : am_bad e.1 st with
          | true => rw [h5] at h; cases h
          | false =>
            rw [h5] at h
            dsimp only at h
            rw [step_pt h5]
            cases h4 : am_step e pc ls st g r N with
            | none => rw [h4] at h; cases h
            | some q =>
              obtain ⟨pc1, ls1, st1, g1, r1, N1⟩ := q
              rw [h4] at h
              exact ex2_pt h
