/-! ROWS: an instruction of the abstract machine, goal first. Ou m pc ls st g r Q: from here method m ends with Q. Rt: a call's answer. Written by wip/gen/gen15.py -/
def Ou (m pc : Nat) (ls st : List AV) (g r : GI) (Q : Option AV → GI → GI → Prop) : Prop := ∃ n v g' r', am_ex n m pc ls st g r NA = some (v, g', r', NA) ∧ Q v g' r'
def Rt (b : Nat) (as : List AV) (g r : GI) (v : Option AV) (g' r' : GI) : Prop := ∃ n, am_ex n b 0 (am_ini b as) [] g r NA = some (v, g', r', NA)
def Rq (v : Option AV) (g r : GI) : Option AV → GI → GI → Prop := fun v' g' r' => v' = v ∧ g' = g ∧ r' = r
theorem am_mono : ∀ {n m pc : Nat} {ls st : List AV} {g r : GI} {N : Nat} {x : Option AV × GI × GI × Nat}, am_ex n m pc ls st g r N = some x → am_ex (n + 1) m pc ls st g r N = some x
  | 0, _, _, _, _, _, _, _, _, h => by cases h
  | n + 1, m, pc, ls, st, g, r, N, x, h => by
    rw [am_ex] at h
    rw [am_ex]
    cases h1 : am_code m pc with
    | none => rw [h1] at h; cases h
    | some e =>
      rw [h1] at h
      dsimp only at h ⊢
      cases h2 : am_ret e.1 (am_rt m) st with
      | some v => rw [h2] at h; exact h
      | none =>
        rw [h2] at h
        dsimp only at h ⊢
        cases h3 : am_cal e.1 e.2.2.2.1 e.2.2.2.2.1 e.2.2.2.2.2 N st with
        | some q =>
          obtain ⟨as, rest⟩ := q
          rw [h3] at h
          dsimp only at h ⊢
          cases h4 : am_ex n e.2.2.2.1 0 (am_ini e.2.2.2.1 as) [] g r N with
          | none => rw [h4] at h; cases h
          | some q =>
            obtain ⟨v, g1, r1, N1⟩ := q
            rw [h4] at h
            rw [am_mono h4]
            exact am_mono h
        | none =>
          rw [h3] at h
          dsimp only at h ⊢
          cases h4 : am_step e pc ls st g r N with
          | none => rw [h4] at h; cases h
          | some q =>
            obtain ⟨pc1, ls1, st1, g1, r1, N1⟩ := q
            rw [h4] at h
            exact am_mono h
theorem am_mono' {n k m pc : Nat} {ls st : List AV} {g r : GI} {N : Nat} {x : Option AV × GI × GI × Nat} (hk : n ≤ k) (h : am_ex n m pc ls st g r N = some x) : am_ex k m pc ls st g r N = some x := by
  induction k with
  | zero => rw [show n = 0 by omega] at h; exact h
  | succ k ih =>
    by_cases e : n = k + 1
    · rw [← e]; exact h
    · exact am_mono (ih (by omega))
section OU
variable {m pc n : Nat} {ls st : List AV} {g r : GI} {Q : Option AV → GI → GI → Prop} {a : Int} {b c d : Nat}
theorem o_step {e : EI} {ls' st' : List AV} {g' r' : GI} {pc' : Nat} (h : am_code m pc = some e) (hr : am_ret e.1 (am_rt m) st = none) (hc : am_cal e.1 e.2.2.2.1 e.2.2.2.2.1 e.2.2.2.2.2 NA st = none) (hs : am_step e pc ls st g r NA = some (pc', ls', st', g', r', NA)) (k : Ou m pc' ls' st' g' r' Q) : Ou m pc ls st g r Q := by
  obtain ⟨k, v, g1, r1, h1, h2⟩ := k
  refine ⟨k + 1, v, g1, r1, ?_, h2⟩
  rw [am_ex, h]
  dsimp only
  rw [hr]
  dsimp only
  rw [hc]
  dsimp only
  rw [hs]
  exact h1
theorem o_ret {e : EI} {v : Option AV} (h : am_code m pc = some e) (hr : am_ret e.1 (am_rt m) st = some v) (q : Q v g r) : Ou m pc ls st g r Q := by
  refine ⟨1, v, g, r, ?_, q⟩
  rw [am_ex, h]
  dsimp only
  rw [hr]
theorem o_call {e : EI} {as rest : List AV} {v : Option AV} {g' r' : GI} (h : am_code m pc = some e) (hr : am_ret e.1 (am_rt m) st = none) (hc : am_cal e.1 e.2.2.2.1 e.2.2.2.2.1 e.2.2.2.2.2 NA st = some (as, rest)) (hb : Rt e.2.2.2.1 as g r v g' r') (k : Ou m (pc + 3) ls (am_psh v rest) g' r' Q) : Ou m pc ls st g r Q := by
  obtain ⟨k1, h1⟩ := hb
  obtain ⟨k2, v2, g2, r2, h2, h3⟩ := k
  refine ⟨max k1 k2 + 1, v2, g2, r2, ?_, h3⟩
  rw [am_ex, h]
  dsimp only
  rw [hr]
  dsimp only
  rw [hc]
  dsimp only
  rw [am_mono' (Nat.le_max_left k1 k2) h1]
  dsimp only
  exact am_mono' (Nat.le_max_right k1 k2) h2
theorem rt_of {as : List AV} {v : Option AV} {g' r' : GI} (h : Ou b 0 (am_ini b as) [] g r (Rq v g' r')) : Rt b as g r v g' r' := by
  obtain ⟨k, v1, g1, r1, h1, h2, h3, h4⟩ := h
  subst h2; subst h3; subst h4
  exact ⟨k, h1⟩
/-- an end of which only something is said -/
theorem rt_ex {as : List AV} {P : Option AV → GI → GI → Prop} (h : Ou b 0 (am_ini b as) [] g r P) : ∃ v g' r', Rt b as g r v g' r' ∧ P v g' r' := by
  obtain ⟨k, v1, g1, r1, h1, h2⟩ := h
  exact ⟨v1, g1, r1, ⟨k, h1⟩, h2⟩
theorem o_of_rt {as : List AV} {v : Option AV} {g' r' : GI} (h : Rt b as g r v g' r') (q : Q v g' r') : Ou b 0 (am_ini b as) [] g r Q := by
  obtain ⟨k, h1⟩ := h
  exact ⟨k, v, g', r', h1, q⟩

theorem o_iload_n {j : Fin 4} {x : Int}  (h : am_code m pc = some (.iload_n j, 1, a, b, c, d)) (hp : pc + 1 = n) (hn : am_nth ls j.val = vI x) (k : Ou m n ls (vI x :: st) g r Q) : Ou m pc ls st g r Q := by
  subst hp
  refine o_step h rfl rfl ?_ k
  simp only [am_step, am_ld, hn, am_gi]
theorem o_lload_n {j : Fin 4} {x : Int}  (h : am_code m pc = some (.lload_n j, 1, a, b, c, d)) (hp : pc + 1 = n) (hn : am_nth ls j.val = vL x) (k : Ou m n ls (vL x :: st) g r Q) : Ou m pc ls st g r Q := by
  subst hp
  refine o_step h rfl rfl ?_ k
  simp only [am_step, am_ld, hn, am_gl]
theorem o_aload_n {j : Fin 4} {x : Nat} {i : Int}  (h : am_code m pc = some (.aload_n j, 1, a, b, c, d)) (hp : pc + 1 = n) (hn : am_nth ls j.val = vR x i) (k : Ou m n ls (vR x i :: st) g r Q) : Ou m pc ls st g r Q := by
  subst hp
  refine o_step h rfl rfl ?_ k
  simp only [am_step, am_ld, hn, am_gr]
theorem o_iload {j : Nat} {x : Int}  (h : am_code m pc = some (.iload j, 2, a, b, c, d)) (hp : pc + 2 = n) (hn : am_nth ls j = vI x) (k : Ou m n ls (vI x :: st) g r Q) : Ou m pc ls st g r Q := by
  subst hp
  refine o_step h rfl rfl ?_ k
  simp only [am_step, am_ld, hn, am_gi]
theorem o_lload {j : Nat} {x : Int}  (h : am_code m pc = some (.lload j, 2, a, b, c, d)) (hp : pc + 2 = n) (hn : am_nth ls j = vL x) (k : Ou m n ls (vL x :: st) g r Q) : Ou m pc ls st g r Q := by
  subst hp
  refine o_step h rfl rfl ?_ k
  simp only [am_step, am_ld, hn, am_gl]
theorem o_aload {j : Nat} {x : Nat} {i : Int}  (h : am_code m pc = some (.aload j, 2, a, b, c, d)) (hp : pc + 2 = n) (hn : am_nth ls j = vR x i) (k : Ou m n ls (vR x i :: st) g r Q) : Ou m pc ls st g r Q := by
  subst hp
  refine o_step h rfl rfl ?_ k
  simp only [am_step, am_ld, hn, am_gr]
theorem o_iconst {z : Int}  (h : am_code m pc = some (.iconst z, 1, a, b, c, d)) (hp : pc + 1 = n) (k : Ou m n ls (vI a :: st) g r Q) : Ou m pc ls st g r Q := by
  subst hp
  refine o_step h rfl rfl ?_ k
  simp only [am_step, am_ld, am_cst]
theorem o_bipush {z : Int}  (h : am_code m pc = some (.bipush z, 2, a, b, c, d)) (hp : pc + 2 = n) (k : Ou m n ls (vI a :: st) g r Q) : Ou m pc ls st g r Q := by
  subst hp
  refine o_step h rfl rfl ?_ k
  simp only [am_step, am_ld, am_cst]
theorem o_sipush {z : Int}  (h : am_code m pc = some (.sipush z, 3, a, b, c, d)) (hp : pc + 3 = n) (k : Ou m n ls (vI a :: st) g r Q) : Ou m pc ls st g r Q := by
  subst hp
  refine o_step h rfl rfl ?_ k
  simp only [am_step, am_ld, am_cst]
theorem o_ldc {z : Nat}  (h : am_code m pc = some (.ldc z, 2, a, b, c, d)) (hp : pc + 2 = n) (k : Ou m n ls (vI a :: st) g r Q) : Ou m pc ls st g r Q := by
  subst hp
  refine o_step h rfl rfl ?_ k
  simp only [am_step, am_ld, am_cst]
theorem o_ldc_w {z : Nat}  (h : am_code m pc = some (.ldc_w z, 3, a, b, c, d)) (hp : pc + 3 = n) (k : Ou m n ls (vI a :: st) g r Q) : Ou m pc ls st g r Q := by
  subst hp
  refine o_step h rfl rfl ?_ k
  simp only [am_step, am_ld, am_cst]
theorem o_lconst {z : Fin 2}  (h : am_code m pc = some (.lconst z, 1, a, b, c, d)) (hp : pc + 1 = n) (k : Ou m n ls (vL a :: st) g r Q) : Ou m pc ls st g r Q := by
  subst hp
  refine o_step h rfl rfl ?_ k
  simp only [am_step, am_ld, am_cst]
theorem o_ldc2_w {z : Nat}  (h : am_code m pc = some (.ldc2_w z, 3, a, b, c, d)) (hp : pc + 3 = n) (k : Ou m n ls (vL a :: st) g r Q) : Ou m pc ls st g r Q := by
  subst hp
  refine o_step h rfl rfl ?_ k
  simp only [am_step, am_ld, am_cst]
theorem o_istore_0 {a0 : AV} {tl : List AV} {x : Int} (h : am_code m pc = some (.istore_n 0, 1, a, b, c, d)) (hp : pc + 1 = n) (k : Ou m n (vI x :: tl) st g r Q) : Ou m pc (a0 :: tl) (vI x :: st) g r Q := by
  subst hp
  refine o_step h rfl rfl ?_ k
  have hc : ((0 : Fin 4) : Nat) < (a0 :: tl).length ∧ am_pre (a0 :: tl) ((0 : Fin 4) : Nat) = false := ⟨by simp only [List.length_cons]; first | omega | (show _ < _ + 1; omega) | exact Nat.le_of_ble_eq_true rfl | (simp; omega), by rfl⟩
  simp only [am_step, am_ld, am_cst, am_sto, am_sI, am_s1, am_nth, if_pos hc]
  rfl
theorem o_astore_0 {a0 : AV} {tl : List AV} {x : Nat} {i : Int} (h : am_code m pc = some (.astore_n 0, 1, a, b, c, d)) (hp : pc + 1 = n) (k : Ou m n (vR x i :: tl) st g r Q) : Ou m pc (a0 :: tl) (vR x i :: st) g r Q := by
  subst hp
  refine o_step h rfl rfl ?_ k
  have hc : ((0 : Fin 4) : Nat) < (a0 :: tl).length ∧ am_pre (a0 :: tl) ((0 : Fin 4) : Nat) = false := ⟨by simp only [List.length_cons]; first | omega | (show _ < _ + 1; omega) | exact Nat.le_of_ble_eq_true rfl | (simp; omega), by rfl⟩
  simp only [am_step, am_ld, am_cst, am_sto, am_sR, am_s1, am_nth, if_pos hc]
  rfl
theorem o_iinc_0 {tl : List AV} {x z : Int}  (h : am_code m pc = some (.iinc 0 z, 3, a, b, c, d)) (hp : pc + 3 = n) (hi : inI (x + z)) (k : Ou m n (vI (x + z) :: tl) st g r Q) : Ou m pc (vI x :: tl) st g r Q := by
  subst hp
  refine o_step h rfl rfl ?_ k
  have hc : 0 < (vI x :: tl).length ∧ am_pre (vI x :: tl) 0 = false := ⟨by simp only [List.length_cons]; omega, by rfl⟩
  simp only [am_step, am_ld, am_cst, am_sto, am_sN, am_s1, am_nth, if_pos hi, if_pos hc]
  rfl
theorem o_lstore_0 {a0 a1 : AV} {tl : List AV} {x : Int}  (h : am_code m pc = some (.lstore_n 0, 1, a, b, c, d)) (hp : pc + 1 = n) (k : Ou m n (vL x :: vN :: tl) st g r Q) : Ou m pc (a0 :: a1 :: tl) (vL x :: st) g r Q := by
  subst hp
  refine o_step h rfl rfl ?_ k
  have hc : ((0 : Fin 4) : Nat) + 1 < (a0 :: a1 :: tl).length ∧ am_pre (a0 :: a1 :: tl) ((0 : Fin 4) : Nat) = false := ⟨by simp only [List.length_cons]; first | omega | (simp; omega), by rfl⟩
  simp only [am_step, am_ld, am_cst, am_sto, am_sL, am_s2, am_nth, if_pos hc]
  rfl
theorem o_istore_1 {a0 a1 : AV} {tl : List AV} {x : Int} (h : am_code m pc = some (.istore_n 1, 1, a, b, c, d)) (hp : pc + 1 = n) (hl : am_isL a0 = false) (k : Ou m n (a0 :: vI x :: tl) st g r Q) : Ou m pc (a0 :: a1 :: tl) (vI x :: st) g r Q := by
  subst hp
  refine o_step h rfl rfl ?_ k
  have hc : ((1 : Fin 4) : Nat) < (a0 :: a1 :: tl).length ∧ am_pre (a0 :: a1 :: tl) ((1 : Fin 4) : Nat) = false := ⟨by simp only [List.length_cons]; first | omega | (show _ < _ + 1; omega) | exact Nat.le_of_ble_eq_true rfl | (simp; omega), by exact hl⟩
  simp only [am_step, am_ld, am_cst, am_sto, am_sI, am_s1, am_nth, if_pos hc]
  rfl
theorem o_astore_1 {a0 a1 : AV} {tl : List AV} {x : Nat} {i : Int} (h : am_code m pc = some (.astore_n 1, 1, a, b, c, d)) (hp : pc + 1 = n) (hl : am_isL a0 = false) (k : Ou m n (a0 :: vR x i :: tl) st g r Q) : Ou m pc (a0 :: a1 :: tl) (vR x i :: st) g r Q := by
  subst hp
  refine o_step h rfl rfl ?_ k
  have hc : ((1 : Fin 4) : Nat) < (a0 :: a1 :: tl).length ∧ am_pre (a0 :: a1 :: tl) ((1 : Fin 4) : Nat) = false := ⟨by simp only [List.length_cons]; first | omega | (show _ < _ + 1; omega) | exact Nat.le_of_ble_eq_true rfl | (simp; omega), by exact hl⟩
  simp only [am_step, am_ld, am_cst, am_sto, am_sR, am_s1, am_nth, if_pos hc]
  rfl
theorem o_iinc_1 {a0 : AV} {tl : List AV} {x z : Int}  (h : am_code m pc = some (.iinc 1 z, 3, a, b, c, d)) (hp : pc + 3 = n) (hl : am_isL a0 = false) (hi : inI (x + z)) (k : Ou m n (a0 :: vI (x + z) :: tl) st g r Q) : Ou m pc (a0 :: vI x :: tl) st g r Q := by
  subst hp
  refine o_step h rfl rfl ?_ k
  have hc : 1 < (a0 :: vI x :: tl).length ∧ am_pre (a0 :: vI x :: tl) 1 = false := ⟨by simp only [List.length_cons]; omega, by exact hl⟩
  simp only [am_step, am_ld, am_cst, am_sto, am_sN, am_s1, am_nth, if_pos hi, if_pos hc]
  rfl
theorem o_lstore_1 {a0 a1 a2 : AV} {tl : List AV} {x : Int}  (h : am_code m pc = some (.lstore_n 1, 1, a, b, c, d)) (hp : pc + 1 = n) (hl : am_isL a0 = false) (k : Ou m n (a0 :: vL x :: vN :: tl) st g r Q) : Ou m pc (a0 :: a1 :: a2 :: tl) (vL x :: st) g r Q := by
  subst hp
  refine o_step h rfl rfl ?_ k
  have hc : ((1 : Fin 4) : Nat) + 1 < (a0 :: a1 :: a2 :: tl).length ∧ am_pre (a0 :: a1 :: a2 :: tl) ((1 : Fin 4) : Nat) = false := ⟨by simp only [List.length_cons]; first | omega | (simp; omega), by exact hl⟩
  simp only [am_step, am_ld, am_cst, am_sto, am_sL, am_s2, am_nth, if_pos hc]
  rfl
theorem o_istore_2 {a0 a1 a2 : AV} {tl : List AV} {x : Int} (h : am_code m pc = some (.istore_n 2, 1, a, b, c, d)) (hp : pc + 1 = n) (hl : am_isL a1 = false) (k : Ou m n (a0 :: a1 :: vI x :: tl) st g r Q) : Ou m pc (a0 :: a1 :: a2 :: tl) (vI x :: st) g r Q := by
  subst hp
  refine o_step h rfl rfl ?_ k
  have hc : ((2 : Fin 4) : Nat) < (a0 :: a1 :: a2 :: tl).length ∧ am_pre (a0 :: a1 :: a2 :: tl) ((2 : Fin 4) : Nat) = false := ⟨by simp only [List.length_cons]; first | omega | (show _ < _ + 1; omega) | exact Nat.le_of_ble_eq_true rfl | (simp; omega), by exact hl⟩
  simp only [am_step, am_ld, am_cst, am_sto, am_sI, am_s1, am_nth, if_pos hc]
  rfl
theorem o_astore_2 {a0 a1 a2 : AV} {tl : List AV} {x : Nat} {i : Int} (h : am_code m pc = some (.astore_n 2, 1, a, b, c, d)) (hp : pc + 1 = n) (hl : am_isL a1 = false) (k : Ou m n (a0 :: a1 :: vR x i :: tl) st g r Q) : Ou m pc (a0 :: a1 :: a2 :: tl) (vR x i :: st) g r Q := by
  subst hp
  refine o_step h rfl rfl ?_ k
  have hc : ((2 : Fin 4) : Nat) < (a0 :: a1 :: a2 :: tl).length ∧ am_pre (a0 :: a1 :: a2 :: tl) ((2 : Fin 4) : Nat) = false := ⟨by simp only [List.length_cons]; first | omega | (show _ < _ + 1; omega) | exact Nat.le_of_ble_eq_true rfl | (simp; omega), by exact hl⟩
  simp only [am_step, am_ld, am_cst, am_sto, am_sR, am_s1, am_nth, if_pos hc]
  rfl
theorem o_iinc_2 {a0 a1 : AV} {tl : List AV} {x z : Int}  (h : am_code m pc = some (.iinc 2 z, 3, a, b, c, d)) (hp : pc + 3 = n) (hl : am_isL a1 = false) (hi : inI (x + z)) (k : Ou m n (a0 :: a1 :: vI (x + z) :: tl) st g r Q) : Ou m pc (a0 :: a1 :: vI x :: tl) st g r Q := by
  subst hp
  refine o_step h rfl rfl ?_ k
  have hc : 2 < (a0 :: a1 :: vI x :: tl).length ∧ am_pre (a0 :: a1 :: vI x :: tl) 2 = false := ⟨by simp only [List.length_cons]; omega, by exact hl⟩
  simp only [am_step, am_ld, am_cst, am_sto, am_sN, am_s1, am_nth, if_pos hi, if_pos hc]
  rfl
theorem o_lstore_2 {a0 a1 a2 a3 : AV} {tl : List AV} {x : Int}  (h : am_code m pc = some (.lstore_n 2, 1, a, b, c, d)) (hp : pc + 1 = n) (hl : am_isL a1 = false) (k : Ou m n (a0 :: a1 :: vL x :: vN :: tl) st g r Q) : Ou m pc (a0 :: a1 :: a2 :: a3 :: tl) (vL x :: st) g r Q := by
  subst hp
  refine o_step h rfl rfl ?_ k
  have hc : ((2 : Fin 4) : Nat) + 1 < (a0 :: a1 :: a2 :: a3 :: tl).length ∧ am_pre (a0 :: a1 :: a2 :: a3 :: tl) ((2 : Fin 4) : Nat) = false := ⟨by simp only [List.length_cons]; first | omega | (simp; omega), by exact hl⟩
  simp only [am_step, am_ld, am_cst, am_sto, am_sL, am_s2, am_nth, if_pos hc]
  rfl
theorem o_istore_3 {a0 a1 a2 a3 : AV} {tl : List AV} {x : Int} (h : am_code m pc = some (.istore_n 3, 1, a, b, c, d)) (hp : pc + 1 = n) (hl : am_isL a2 = false) (k : Ou m n (a0 :: a1 :: a2 :: vI x :: tl) st g r Q) : Ou m pc (a0 :: a1 :: a2 :: a3 :: tl) (vI x :: st) g r Q := by
  subst hp
  refine o_step h rfl rfl ?_ k
  have hc : ((3 : Fin 4) : Nat) < (a0 :: a1 :: a2 :: a3 :: tl).length ∧ am_pre (a0 :: a1 :: a2 :: a3 :: tl) ((3 : Fin 4) : Nat) = false := ⟨by simp only [List.length_cons]; first | omega | (show _ < _ + 1; omega) | exact Nat.le_of_ble_eq_true rfl | (simp; omega), by exact hl⟩
  simp only [am_step, am_ld, am_cst, am_sto, am_sI, am_s1, am_nth, if_pos hc]
  rfl
theorem o_astore_3 {a0 a1 a2 a3 : AV} {tl : List AV} {x : Nat} {i : Int} (h : am_code m pc = some (.astore_n 3, 1, a, b, c, d)) (hp : pc + 1 = n) (hl : am_isL a2 = false) (k : Ou m n (a0 :: a1 :: a2 :: vR x i :: tl) st g r Q) : Ou m pc (a0 :: a1 :: a2 :: a3 :: tl) (vR x i :: st) g r Q := by
  subst hp
  refine o_step h rfl rfl ?_ k
  have hc : ((3 : Fin 4) : Nat) < (a0 :: a1 :: a2 :: a3 :: tl).length ∧ am_pre (a0 :: a1 :: a2 :: a3 :: tl) ((3 : Fin 4) : Nat) = false := ⟨by simp only [List.length_cons]; first | omega | (show _ < _ + 1; omega) | exact Nat.le_of_ble_eq_true rfl | (simp; omega), by exact hl⟩
  simp only [am_step, am_ld, am_cst, am_sto, am_sR, am_s1, am_nth, if_pos hc]
  rfl
theorem o_iinc_3 {a0 a1 a2 : AV} {tl : List AV} {x z : Int}  (h : am_code m pc = some (.iinc 3 z, 3, a, b, c, d)) (hp : pc + 3 = n) (hl : am_isL a2 = false) (hi : inI (x + z)) (k : Ou m n (a0 :: a1 :: a2 :: vI (x + z) :: tl) st g r Q) : Ou m pc (a0 :: a1 :: a2 :: vI x :: tl) st g r Q := by
  subst hp
  refine o_step h rfl rfl ?_ k
  have hc : 3 < (a0 :: a1 :: a2 :: vI x :: tl).length ∧ am_pre (a0 :: a1 :: a2 :: vI x :: tl) 3 = false := ⟨by simp only [List.length_cons]; omega, by exact hl⟩
  simp only [am_step, am_ld, am_cst, am_sto, am_sN, am_s1, am_nth, if_pos hi, if_pos hc]
  rfl
theorem o_lstore_3 {a0 a1 a2 a3 a4 : AV} {tl : List AV} {x : Int}  (h : am_code m pc = some (.lstore_n 3, 1, a, b, c, d)) (hp : pc + 1 = n) (hl : am_isL a2 = false) (k : Ou m n (a0 :: a1 :: a2 :: vL x :: vN :: tl) st g r Q) : Ou m pc (a0 :: a1 :: a2 :: a3 :: a4 :: tl) (vL x :: st) g r Q := by
  subst hp
  refine o_step h rfl rfl ?_ k
  have hc : ((3 : Fin 4) : Nat) + 1 < (a0 :: a1 :: a2 :: a3 :: a4 :: tl).length ∧ am_pre (a0 :: a1 :: a2 :: a3 :: a4 :: tl) ((3 : Fin 4) : Nat) = false := ⟨by simp only [List.length_cons]; first | omega | (simp; omega), by exact hl⟩
  simp only [am_step, am_ld, am_cst, am_sto, am_sL, am_s2, am_nth, if_pos hc]
  rfl
theorem o_istore_4 {a0 a1 a2 a3 a4 : AV} {tl : List AV} {x : Int} (h : am_code m pc = some (.istore 4, 2, a, b, c, d)) (hp : pc + 2 = n) (hl : am_isL a3 = false) (k : Ou m n (a0 :: a1 :: a2 :: a3 :: vI x :: tl) st g r Q) : Ou m pc (a0 :: a1 :: a2 :: a3 :: a4 :: tl) (vI x :: st) g r Q := by
  subst hp
  refine o_step h rfl rfl ?_ k
  have hc : 4 < (a0 :: a1 :: a2 :: a3 :: a4 :: tl).length ∧ am_pre (a0 :: a1 :: a2 :: a3 :: a4 :: tl) 4 = false := ⟨by simp only [List.length_cons]; first | omega | (show _ < _ + 1; omega) | exact Nat.le_of_ble_eq_true rfl | (simp; omega), by exact hl⟩
  simp only [am_step, am_ld, am_cst, am_sto, am_sI, am_s1, am_nth, if_pos hc]
  rfl
theorem o_astore_4 {a0 a1 a2 a3 a4 : AV} {tl : List AV} {x : Nat} {i : Int} (h : am_code m pc = some (.astore 4, 2, a, b, c, d)) (hp : pc + 2 = n) (hl : am_isL a3 = false) (k : Ou m n (a0 :: a1 :: a2 :: a3 :: vR x i :: tl) st g r Q) : Ou m pc (a0 :: a1 :: a2 :: a3 :: a4 :: tl) (vR x i :: st) g r Q := by
  subst hp
  refine o_step h rfl rfl ?_ k
  have hc : 4 < (a0 :: a1 :: a2 :: a3 :: a4 :: tl).length ∧ am_pre (a0 :: a1 :: a2 :: a3 :: a4 :: tl) 4 = false := ⟨by simp only [List.length_cons]; first | omega | (show _ < _ + 1; omega) | exact Nat.le_of_ble_eq_true rfl | (simp; omega), by exact hl⟩
  simp only [am_step, am_ld, am_cst, am_sto, am_sR, am_s1, am_nth, if_pos hc]
  rfl
theorem o_iinc_4 {a0 a1 a2 a3 : AV} {tl : List AV} {x z : Int}  (h : am_code m pc = some (.iinc 4 z, 3, a, b, c, d)) (hp : pc + 3 = n) (hl : am_isL a3 = false) (hi : inI (x + z)) (k : Ou m n (a0 :: a1 :: a2 :: a3 :: vI (x + z) :: tl) st g r Q) : Ou m pc (a0 :: a1 :: a2 :: a3 :: vI x :: tl) st g r Q := by
  subst hp
  refine o_step h rfl rfl ?_ k
  have hc : 4 < (a0 :: a1 :: a2 :: a3 :: vI x :: tl).length ∧ am_pre (a0 :: a1 :: a2 :: a3 :: vI x :: tl) 4 = false := ⟨by simp only [List.length_cons]; omega, by exact hl⟩
  simp only [am_step, am_ld, am_cst, am_sto, am_sN, am_s1, am_nth, if_pos hi, if_pos hc]
  rfl
theorem o_lstore_4 {a0 a1 a2 a3 a4 a5 : AV} {tl : List AV} {x : Int}  (h : am_code m pc = some (.lstore 4, 2, a, b, c, d)) (hp : pc + 2 = n) (hl : am_isL a3 = false) (k : Ou m n (a0 :: a1 :: a2 :: a3 :: vL x :: vN :: tl) st g r Q) : Ou m pc (a0 :: a1 :: a2 :: a3 :: a4 :: a5 :: tl) (vL x :: st) g r Q := by
  subst hp
  refine o_step h rfl rfl ?_ k
  have hc : 4 + 1 < (a0 :: a1 :: a2 :: a3 :: a4 :: a5 :: tl).length ∧ am_pre (a0 :: a1 :: a2 :: a3 :: a4 :: a5 :: tl) 4 = false := ⟨by simp only [List.length_cons]; first | omega | (simp; omega), by exact hl⟩
  simp only [am_step, am_ld, am_cst, am_sto, am_sL, am_s2, am_nth, if_pos hc]
  rfl
theorem o_istore_5 {a0 a1 a2 a3 a4 a5 : AV} {tl : List AV} {x : Int} (h : am_code m pc = some (.istore 5, 2, a, b, c, d)) (hp : pc + 2 = n) (hl : am_isL a4 = false) (k : Ou m n (a0 :: a1 :: a2 :: a3 :: a4 :: vI x :: tl) st g r Q) : Ou m pc (a0 :: a1 :: a2 :: a3 :: a4 :: a5 :: tl) (vI x :: st) g r Q := by
  subst hp
  refine o_step h rfl rfl ?_ k
  have hc : 5 < (a0 :: a1 :: a2 :: a3 :: a4 :: a5 :: tl).length ∧ am_pre (a0 :: a1 :: a2 :: a3 :: a4 :: a5 :: tl) 5 = false := ⟨by simp only [List.length_cons]; first | omega | (show _ < _ + 1; omega) | exact Nat.le_of_ble_eq_true rfl | (simp; omega), by exact hl⟩
  simp only [am_step, am_ld, am_cst, am_sto, am_sI, am_s1, am_nth, if_pos hc]
  rfl
theorem o_astore_5 {a0 a1 a2 a3 a4 a5 : AV} {tl : List AV} {x : Nat} {i : Int} (h : am_code m pc = some (.astore 5, 2, a, b, c, d)) (hp : pc + 2 = n) (hl : am_isL a4 = false) (k : Ou m n (a0 :: a1 :: a2 :: a3 :: a4 :: vR x i :: tl) st g r Q) : Ou m pc (a0 :: a1 :: a2 :: a3 :: a4 :: a5 :: tl) (vR x i :: st) g r Q := by
  subst hp
  refine o_step h rfl rfl ?_ k
  have hc : 5 < (a0 :: a1 :: a2 :: a3 :: a4 :: a5 :: tl).length ∧ am_pre (a0 :: a1 :: a2 :: a3 :: a4 :: a5 :: tl) 5 = false := ⟨by simp only [List.length_cons]; first | omega | (show _ < _ + 1; omega) | exact Nat.le_of_ble_eq_true rfl | (simp; omega), by exact hl⟩
  simp only [am_step, am_ld, am_cst, am_sto, am_sR, am_s1, am_nth, if_pos hc]
  rfl
theorem o_iinc_5 {a0 a1 a2 a3 a4 : AV} {tl : List AV} {x z : Int}  (h : am_code m pc = some (.iinc 5 z, 3, a, b, c, d)) (hp : pc + 3 = n) (hl : am_isL a4 = false) (hi : inI (x + z)) (k : Ou m n (a0 :: a1 :: a2 :: a3 :: a4 :: vI (x + z) :: tl) st g r Q) : Ou m pc (a0 :: a1 :: a2 :: a3 :: a4 :: vI x :: tl) st g r Q := by
  subst hp
  refine o_step h rfl rfl ?_ k
  have hc : 5 < (a0 :: a1 :: a2 :: a3 :: a4 :: vI x :: tl).length ∧ am_pre (a0 :: a1 :: a2 :: a3 :: a4 :: vI x :: tl) 5 = false := ⟨by simp only [List.length_cons]; omega, by exact hl⟩
  simp only [am_step, am_ld, am_cst, am_sto, am_sN, am_s1, am_nth, if_pos hi, if_pos hc]
  rfl
theorem o_lstore_5 {a0 a1 a2 a3 a4 a5 a6 : AV} {tl : List AV} {x : Int}  (h : am_code m pc = some (.lstore 5, 2, a, b, c, d)) (hp : pc + 2 = n) (hl : am_isL a4 = false) (k : Ou m n (a0 :: a1 :: a2 :: a3 :: a4 :: vL x :: vN :: tl) st g r Q) : Ou m pc (a0 :: a1 :: a2 :: a3 :: a4 :: a5 :: a6 :: tl) (vL x :: st) g r Q := by
  subst hp
  refine o_step h rfl rfl ?_ k
  have hc : 5 + 1 < (a0 :: a1 :: a2 :: a3 :: a4 :: a5 :: a6 :: tl).length ∧ am_pre (a0 :: a1 :: a2 :: a3 :: a4 :: a5 :: a6 :: tl) 5 = false := ⟨by simp only [List.length_cons]; first | omega | (simp; omega), by exact hl⟩
  simp only [am_step, am_ld, am_cst, am_sto, am_sL, am_s2, am_nth, if_pos hc]
  rfl
theorem o_istore_6 {a0 a1 a2 a3 a4 a5 a6 : AV} {tl : List AV} {x : Int} (h : am_code m pc = some (.istore 6, 2, a, b, c, d)) (hp : pc + 2 = n) (hl : am_isL a5 = false) (k : Ou m n (a0 :: a1 :: a2 :: a3 :: a4 :: a5 :: vI x :: tl) st g r Q) : Ou m pc (a0 :: a1 :: a2 :: a3 :: a4 :: a5 :: a6 :: tl) (vI x :: st) g r Q := by
  subst hp
  refine o_step h rfl rfl ?_ k
  have hc : 6 < (a0 :: a1 :: a2 :: a3 :: a4 :: a5 :: a6 :: tl).length ∧ am_pre (a0 :: a1 :: a2 :: a3 :: a4 :: a5 :: a6 :: tl) 6 = false := ⟨by simp only [List.length_cons]; first | omega | (show _ < _ + 1; omega) | exact Nat.le_of_ble_eq_true rfl | (simp; omega), by exact hl⟩
  simp only [am_step, am_ld, am_cst, am_sto, am_sI, am_s1, am_nth, if_pos hc]
  rfl
theorem o_astore_6 {a0 a1 a2 a3 a4 a5 a6 : AV} {tl : List AV} {x : Nat} {i : Int} (h : am_code m pc = some (.astore 6, 2, a, b, c, d)) (hp : pc + 2 = n) (hl : am_isL a5 = false) (k : Ou m n (a0 :: a1 :: a2 :: a3 :: a4 :: a5 :: vR x i :: tl) st g r Q) : Ou m pc (a0 :: a1 :: a2 :: a3 :: a4 :: a5 :: a6 :: tl) (vR x i :: st) g r Q := by
  subst hp
  refine o_step h rfl rfl ?_ k
  have hc : 6 < (a0 :: a1 :: a2 :: a3 :: a4 :: a5 :: a6 :: tl).length ∧ am_pre (a0 :: a1 :: a2 :: a3 :: a4 :: a5 :: a6 :: tl) 6 = false := ⟨by simp only [List.length_cons]; first | omega | (show _ < _ + 1; omega) | exact Nat.le_of_ble_eq_true rfl | (simp; omega), by exact hl⟩
  simp only [am_step, am_ld, am_cst, am_sto, am_sR, am_s1, am_nth, if_pos hc]
  rfl
theorem o_iinc_6 {a0 a1 a2 a3 a4 a5 : AV} {tl : List AV} {x z : Int}  (h : am_code m pc = some (.iinc 6 z, 3, a, b, c, d)) (hp : pc + 3 = n) (hl : am_isL a5 = false) (hi : inI (x + z)) (k : Ou m n (a0 :: a1 :: a2 :: a3 :: a4 :: a5 :: vI (x + z) :: tl) st g r Q) : Ou m pc (a0 :: a1 :: a2 :: a3 :: a4 :: a5 :: vI x :: tl) st g r Q := by
  subst hp
  refine o_step h rfl rfl ?_ k
  have hc : 6 < (a0 :: a1 :: a2 :: a3 :: a4 :: a5 :: vI x :: tl).length ∧ am_pre (a0 :: a1 :: a2 :: a3 :: a4 :: a5 :: vI x :: tl) 6 = false := ⟨by simp only [List.length_cons]; omega, by exact hl⟩
  simp only [am_step, am_ld, am_cst, am_sto, am_sN, am_s1, am_nth, if_pos hi, if_pos hc]
  rfl
theorem o_lstore_6 {a0 a1 a2 a3 a4 a5 a6 a7 : AV} {tl : List AV} {x : Int}  (h : am_code m pc = some (.lstore 6, 2, a, b, c, d)) (hp : pc + 2 = n) (hl : am_isL a5 = false) (k : Ou m n (a0 :: a1 :: a2 :: a3 :: a4 :: a5 :: vL x :: vN :: tl) st g r Q) : Ou m pc (a0 :: a1 :: a2 :: a3 :: a4 :: a5 :: a6 :: a7 :: tl) (vL x :: st) g r Q := by
  subst hp
  refine o_step h rfl rfl ?_ k
  have hc : 6 + 1 < (a0 :: a1 :: a2 :: a3 :: a4 :: a5 :: a6 :: a7 :: tl).length ∧ am_pre (a0 :: a1 :: a2 :: a3 :: a4 :: a5 :: a6 :: a7 :: tl) 6 = false := ⟨by simp only [List.length_cons]; first | omega | (simp; omega), by exact hl⟩
  simp only [am_step, am_ld, am_cst, am_sto, am_sL, am_s2, am_nth, if_pos hc]
  rfl
theorem o_istore_7 {a0 a1 a2 a3 a4 a5 a6 a7 : AV} {tl : List AV} {x : Int} (h : am_code m pc = some (.istore 7, 2, a, b, c, d)) (hp : pc + 2 = n) (hl : am_isL a6 = false) (k : Ou m n (a0 :: a1 :: a2 :: a3 :: a4 :: a5 :: a6 :: vI x :: tl) st g r Q) : Ou m pc (a0 :: a1 :: a2 :: a3 :: a4 :: a5 :: a6 :: a7 :: tl) (vI x :: st) g r Q := by
  subst hp
  refine o_step h rfl rfl ?_ k
  have hc : 7 < (a0 :: a1 :: a2 :: a3 :: a4 :: a5 :: a6 :: a7 :: tl).length ∧ am_pre (a0 :: a1 :: a2 :: a3 :: a4 :: a5 :: a6 :: a7 :: tl) 7 = false := ⟨by simp only [List.length_cons]; first | omega | (show _ < _ + 1; omega) | exact Nat.le_of_ble_eq_true rfl | (simp; omega), by exact hl⟩
  simp only [am_step, am_ld, am_cst, am_sto, am_sI, am_s1, am_nth, if_pos hc]
  rfl
theorem o_astore_7 {a0 a1 a2 a3 a4 a5 a6 a7 : AV} {tl : List AV} {x : Nat} {i : Int} (h : am_code m pc = some (.astore 7, 2, a, b, c, d)) (hp : pc + 2 = n) (hl : am_isL a6 = false) (k : Ou m n (a0 :: a1 :: a2 :: a3 :: a4 :: a5 :: a6 :: vR x i :: tl) st g r Q) : Ou m pc (a0 :: a1 :: a2 :: a3 :: a4 :: a5 :: a6 :: a7 :: tl) (vR x i :: st) g r Q := by
  subst hp
  refine o_step h rfl rfl ?_ k
  have hc : 7 < (a0 :: a1 :: a2 :: a3 :: a4 :: a5 :: a6 :: a7 :: tl).length ∧ am_pre (a0 :: a1 :: a2 :: a3 :: a4 :: a5 :: a6 :: a7 :: tl) 7 = false := ⟨by simp only [List.length_cons]; first | omega | (show _ < _ + 1; omega) | exact Nat.le_of_ble_eq_true rfl | (simp; omega), by exact hl⟩
  simp only [am_step, am_ld, am_cst, am_sto, am_sR, am_s1, am_nth, if_pos hc]
  rfl
theorem o_iinc_7 {a0 a1 a2 a3 a4 a5 a6 : AV} {tl : List AV} {x z : Int}  (h : am_code m pc = some (.iinc 7 z, 3, a, b, c, d)) (hp : pc + 3 = n) (hl : am_isL a6 = false) (hi : inI (x + z)) (k : Ou m n (a0 :: a1 :: a2 :: a3 :: a4 :: a5 :: a6 :: vI (x + z) :: tl) st g r Q) : Ou m pc (a0 :: a1 :: a2 :: a3 :: a4 :: a5 :: a6 :: vI x :: tl) st g r Q := by
  subst hp
  refine o_step h rfl rfl ?_ k
  have hc : 7 < (a0 :: a1 :: a2 :: a3 :: a4 :: a5 :: a6 :: vI x :: tl).length ∧ am_pre (a0 :: a1 :: a2 :: a3 :: a4 :: a5 :: a6 :: vI x :: tl) 7 = false := ⟨by simp only [List.length_cons]; omega, by exact hl⟩
  simp only [am_step, am_ld, am_cst, am_sto, am_sN, am_s1, am_nth, if_pos hi, if_pos hc]
  rfl
theorem o_lstore_7 {a0 a1 a2 a3 a4 a5 a6 a7 a8 : AV} {tl : List AV} {x : Int}  (h : am_code m pc = some (.lstore 7, 2, a, b, c, d)) (hp : pc + 2 = n) (hl : am_isL a6 = false) (k : Ou m n (a0 :: a1 :: a2 :: a3 :: a4 :: a5 :: a6 :: vL x :: vN :: tl) st g r Q) : Ou m pc (a0 :: a1 :: a2 :: a3 :: a4 :: a5 :: a6 :: a7 :: a8 :: tl) (vL x :: st) g r Q := by
  subst hp
  refine o_step h rfl rfl ?_ k
  have hc : 7 + 1 < (a0 :: a1 :: a2 :: a3 :: a4 :: a5 :: a6 :: a7 :: a8 :: tl).length ∧ am_pre (a0 :: a1 :: a2 :: a3 :: a4 :: a5 :: a6 :: a7 :: a8 :: tl) 7 = false := ⟨by simp only [List.length_cons]; first | omega | (simp; omega), by exact hl⟩
  simp only [am_step, am_ld, am_cst, am_sto, am_sL, am_s2, am_nth, if_pos hc]
  rfl
theorem o_istore_8 {a0 a1 a2 a3 a4 a5 a6 a7 a8 : AV} {tl : List AV} {x : Int} (h : am_code m pc = some (.istore 8, 2, a, b, c, d)) (hp : pc + 2 = n) (hl : am_isL a7 = false) (k : Ou m n (a0 :: a1 :: a2 :: a3 :: a4 :: a5 :: a6 :: a7 :: vI x :: tl) st g r Q) : Ou m pc (a0 :: a1 :: a2 :: a3 :: a4 :: a5 :: a6 :: a7 :: a8 :: tl) (vI x :: st) g r Q := by
  subst hp
  refine o_step h rfl rfl ?_ k
  have hc : 8 < (a0 :: a1 :: a2 :: a3 :: a4 :: a5 :: a6 :: a7 :: a8 :: tl).length ∧ am_pre (a0 :: a1 :: a2 :: a3 :: a4 :: a5 :: a6 :: a7 :: a8 :: tl) 8 = false := ⟨by simp only [List.length_cons]; first | omega | (show _ < _ + 1; omega) | exact Nat.le_of_ble_eq_true rfl | (simp; omega), by exact hl⟩
  simp only [am_step, am_ld, am_cst, am_sto, am_sI, am_s1, am_nth, if_pos hc]
  rfl
theorem o_astore_8 {a0 a1 a2 a3 a4 a5 a6 a7 a8 : AV} {tl : List AV} {x : Nat} {i : Int} (h : am_code m pc = some (.astore 8, 2, a, b, c, d)) (hp : pc + 2 = n) (hl : am_isL a7 = false) (k : Ou m n (a0 :: a1 :: a2 :: a3 :: a4 :: a5 :: a6 :: a7 :: vR x i :: tl) st g r Q) : Ou m pc (a0 :: a1 :: a2 :: a3 :: a4 :: a5 :: a6 :: a7 :: a8 :: tl) (vR x i :: st) g r Q := by
  subst hp
  refine o_step h rfl rfl ?_ k
  have hc : 8 < (a0 :: a1 :: a2 :: a3 :: a4 :: a5 :: a6 :: a7 :: a8 :: tl).length ∧ am_pre (a0 :: a1 :: a2 :: a3 :: a4 :: a5 :: a6 :: a7 :: a8 :: tl) 8 = false := ⟨by simp only [List.length_cons]; first | omega | (show _ < _ + 1; omega) | exact Nat.le_of_ble_eq_true rfl | (simp; omega), by exact hl⟩
  simp only [am_step, am_ld, am_cst, am_sto, am_sR, am_s1, am_nth, if_pos hc]
  rfl
theorem o_iinc_8 {a0 a1 a2 a3 a4 a5 a6 a7 : AV} {tl : List AV} {x z : Int}  (h : am_code m pc = some (.iinc 8 z, 3, a, b, c, d)) (hp : pc + 3 = n) (hl : am_isL a7 = false) (hi : inI (x + z)) (k : Ou m n (a0 :: a1 :: a2 :: a3 :: a4 :: a5 :: a6 :: a7 :: vI (x + z) :: tl) st g r Q) : Ou m pc (a0 :: a1 :: a2 :: a3 :: a4 :: a5 :: a6 :: a7 :: vI x :: tl) st g r Q := by
  subst hp
  refine o_step h rfl rfl ?_ k
  have hc : 8 < (a0 :: a1 :: a2 :: a3 :: a4 :: a5 :: a6 :: a7 :: vI x :: tl).length ∧ am_pre (a0 :: a1 :: a2 :: a3 :: a4 :: a5 :: a6 :: a7 :: vI x :: tl) 8 = false := ⟨by simp only [List.length_cons]; omega, by exact hl⟩
  simp only [am_step, am_ld, am_cst, am_sto, am_sN, am_s1, am_nth, if_pos hi, if_pos hc]
  rfl
theorem o_lstore_8 {a0 a1 a2 a3 a4 a5 a6 a7 a8 a9 : AV} {tl : List AV} {x : Int}  (h : am_code m pc = some (.lstore 8, 2, a, b, c, d)) (hp : pc + 2 = n) (hl : am_isL a7 = false) (k : Ou m n (a0 :: a1 :: a2 :: a3 :: a4 :: a5 :: a6 :: a7 :: vL x :: vN :: tl) st g r Q) : Ou m pc (a0 :: a1 :: a2 :: a3 :: a4 :: a5 :: a6 :: a7 :: a8 :: a9 :: tl) (vL x :: st) g r Q := by
  subst hp
  refine o_step h rfl rfl ?_ k
  have hc : 8 + 1 < (a0 :: a1 :: a2 :: a3 :: a4 :: a5 :: a6 :: a7 :: a8 :: a9 :: tl).length ∧ am_pre (a0 :: a1 :: a2 :: a3 :: a4 :: a5 :: a6 :: a7 :: a8 :: a9 :: tl) 8 = false := ⟨by simp only [List.length_cons]; first | omega | (simp; omega), by exact hl⟩
  simp only [am_step, am_ld, am_cst, am_sto, am_sL, am_s2, am_nth, if_pos hc]
  rfl
theorem o_istore_9 {a0 a1 a2 a3 a4 a5 a6 a7 a8 a9 : AV} {tl : List AV} {x : Int} (h : am_code m pc = some (.istore 9, 2, a, b, c, d)) (hp : pc + 2 = n) (hl : am_isL a8 = false) (k : Ou m n (a0 :: a1 :: a2 :: a3 :: a4 :: a5 :: a6 :: a7 :: a8 :: vI x :: tl) st g r Q) : Ou m pc (a0 :: a1 :: a2 :: a3 :: a4 :: a5 :: a6 :: a7 :: a8 :: a9 :: tl) (vI x :: st) g r Q := by
  subst hp
  refine o_step h rfl rfl ?_ k
  have hc : 9 < (a0 :: a1 :: a2 :: a3 :: a4 :: a5 :: a6 :: a7 :: a8 :: a9 :: tl).length ∧ am_pre (a0 :: a1 :: a2 :: a3 :: a4 :: a5 :: a6 :: a7 :: a8 :: a9 :: tl) 9 = false := ⟨by simp only [List.length_cons]; first | omega | (show _ < _ + 1; omega) | exact Nat.le_of_ble_eq_true rfl | (simp; omega), by exact hl⟩
  simp only [am_step, am_ld, am_cst, am_sto, am_sI, am_s1, am_nth, if_pos hc]
  rfl
theorem o_astore_9 {a0 a1 a2 a3 a4 a5 a6 a7 a8 a9 : AV} {tl : List AV} {x : Nat} {i : Int} (h : am_code m pc = some (.astore 9, 2, a, b, c, d)) (hp : pc + 2 = n) (hl : am_isL a8 = false) (k : Ou m n (a0 :: a1 :: a2 :: a3 :: a4 :: a5 :: a6 :: a7 :: a8 :: vR x i :: tl) st g r Q) : Ou m pc (a0 :: a1 :: a2 :: a3 :: a4 :: a5 :: a6 :: a7 :: a8 :: a9 :: tl) (vR x i :: st) g r Q := by
  subst hp
  refine o_step h rfl rfl ?_ k
  have hc : 9 < (a0 :: a1 :: a2 :: a3 :: a4 :: a5 :: a6 :: a7 :: a8 :: a9 :: tl).length ∧ am_pre (a0 :: a1 :: a2 :: a3 :: a4 :: a5 :: a6 :: a7 :: a8 :: a9 :: tl) 9 = false := ⟨by simp only [List.length_cons]; first | omega | (show _ < _ + 1; omega) | exact Nat.le_of_ble_eq_true rfl | (simp; omega), by exact hl⟩
  simp only [am_step, am_ld, am_cst, am_sto, am_sR, am_s1, am_nth, if_pos hc]
  rfl
theorem o_iinc_9 {a0 a1 a2 a3 a4 a5 a6 a7 a8 : AV} {tl : List AV} {x z : Int}  (h : am_code m pc = some (.iinc 9 z, 3, a, b, c, d)) (hp : pc + 3 = n) (hl : am_isL a8 = false) (hi : inI (x + z)) (k : Ou m n (a0 :: a1 :: a2 :: a3 :: a4 :: a5 :: a6 :: a7 :: a8 :: vI (x + z) :: tl) st g r Q) : Ou m pc (a0 :: a1 :: a2 :: a3 :: a4 :: a5 :: a6 :: a7 :: a8 :: vI x :: tl) st g r Q := by
  subst hp
  refine o_step h rfl rfl ?_ k
  have hc : 9 < (a0 :: a1 :: a2 :: a3 :: a4 :: a5 :: a6 :: a7 :: a8 :: vI x :: tl).length ∧ am_pre (a0 :: a1 :: a2 :: a3 :: a4 :: a5 :: a6 :: a7 :: a8 :: vI x :: tl) 9 = false := ⟨by simp only [List.length_cons]; omega, by exact hl⟩
  simp only [am_step, am_ld, am_cst, am_sto, am_sN, am_s1, am_nth, if_pos hi, if_pos hc]
  rfl
theorem o_lstore_9 {a0 a1 a2 a3 a4 a5 a6 a7 a8 a9 a10 : AV} {tl : List AV} {x : Int}  (h : am_code m pc = some (.lstore 9, 2, a, b, c, d)) (hp : pc + 2 = n) (hl : am_isL a8 = false) (k : Ou m n (a0 :: a1 :: a2 :: a3 :: a4 :: a5 :: a6 :: a7 :: a8 :: vL x :: vN :: tl) st g r Q) : Ou m pc (a0 :: a1 :: a2 :: a3 :: a4 :: a5 :: a6 :: a7 :: a8 :: a9 :: a10 :: tl) (vL x :: st) g r Q := by
  subst hp
  refine o_step h rfl rfl ?_ k
  have hc : 9 + 1 < (a0 :: a1 :: a2 :: a3 :: a4 :: a5 :: a6 :: a7 :: a8 :: a9 :: a10 :: tl).length ∧ am_pre (a0 :: a1 :: a2 :: a3 :: a4 :: a5 :: a6 :: a7 :: a8 :: a9 :: a10 :: tl) 9 = false := ⟨by simp only [List.length_cons]; first | omega | (simp; omega), by exact hl⟩
  simp only [am_step, am_ld, am_cst, am_sto, am_sL, am_s2, am_nth, if_pos hc]
  rfl
theorem o_istore_10 {a0 a1 a2 a3 a4 a5 a6 a7 a8 a9 a10 : AV} {tl : List AV} {x : Int} (h : am_code m pc = some (.istore 10, 2, a, b, c, d)) (hp : pc + 2 = n) (hl : am_isL a9 = false) (k : Ou m n (a0 :: a1 :: a2 :: a3 :: a4 :: a5 :: a6 :: a7 :: a8 :: a9 :: vI x :: tl) st g r Q) : Ou m pc (a0 :: a1 :: a2 :: a3 :: a4 :: a5 :: a6 :: a7 :: a8 :: a9 :: a10 :: tl) (vI x :: st) g r Q := by
  subst hp
  refine o_step h rfl rfl ?_ k
  have hc : 10 < (a0 :: a1 :: a2 :: a3 :: a4 :: a5 :: a6 :: a7 :: a8 :: a9 :: a10 :: tl).length ∧ am_pre (a0 :: a1 :: a2 :: a3 :: a4 :: a5 :: a6 :: a7 :: a8 :: a9 :: a10 :: tl) 10 = false := ⟨by simp only [List.length_cons]; first | omega | (show _ < _ + 1; omega) | exact Nat.le_of_ble_eq_true rfl | (simp; omega), by exact hl⟩
  simp only [am_step, am_ld, am_cst, am_sto, am_sI, am_s1, am_nth, if_pos hc]
  rfl
theorem o_astore_10 {a0 a1 a2 a3 a4 a5 a6 a7 a8 a9 a10 : AV} {tl : List AV} {x : Nat} {i : Int} (h : am_code m pc = some (.astore 10, 2, a, b, c, d)) (hp : pc + 2 = n) (hl : am_isL a9 = false) (k : Ou m n (a0 :: a1 :: a2 :: a3 :: a4 :: a5 :: a6 :: a7 :: a8 :: a9 :: vR x i :: tl) st g r Q) : Ou m pc (a0 :: a1 :: a2 :: a3 :: a4 :: a5 :: a6 :: a7 :: a8 :: a9 :: a10 :: tl) (vR x i :: st) g r Q := by
  subst hp
  refine o_step h rfl rfl ?_ k
  have hc : 10 < (a0 :: a1 :: a2 :: a3 :: a4 :: a5 :: a6 :: a7 :: a8 :: a9 :: a10 :: tl).length ∧ am_pre (a0 :: a1 :: a2 :: a3 :: a4 :: a5 :: a6 :: a7 :: a8 :: a9 :: a10 :: tl) 10 = false := ⟨by simp only [List.length_cons]; first | omega | (show _ < _ + 1; omega) | exact Nat.le_of_ble_eq_true rfl | (simp; omega), by exact hl⟩
  simp only [am_step, am_ld, am_cst, am_sto, am_sR, am_s1, am_nth, if_pos hc]
  rfl
theorem o_iinc_10 {a0 a1 a2 a3 a4 a5 a6 a7 a8 a9 : AV} {tl : List AV} {x z : Int}  (h : am_code m pc = some (.iinc 10 z, 3, a, b, c, d)) (hp : pc + 3 = n) (hl : am_isL a9 = false) (hi : inI (x + z)) (k : Ou m n (a0 :: a1 :: a2 :: a3 :: a4 :: a5 :: a6 :: a7 :: a8 :: a9 :: vI (x + z) :: tl) st g r Q) : Ou m pc (a0 :: a1 :: a2 :: a3 :: a4 :: a5 :: a6 :: a7 :: a8 :: a9 :: vI x :: tl) st g r Q := by
  subst hp
  refine o_step h rfl rfl ?_ k
  have hc : 10 < (a0 :: a1 :: a2 :: a3 :: a4 :: a5 :: a6 :: a7 :: a8 :: a9 :: vI x :: tl).length ∧ am_pre (a0 :: a1 :: a2 :: a3 :: a4 :: a5 :: a6 :: a7 :: a8 :: a9 :: vI x :: tl) 10 = false := ⟨by simp only [List.length_cons]; omega, by exact hl⟩
  simp only [am_step, am_ld, am_cst, am_sto, am_sN, am_s1, am_nth, if_pos hi, if_pos hc]
  rfl
theorem o_lstore_10 {a0 a1 a2 a3 a4 a5 a6 a7 a8 a9 a10 a11 : AV} {tl : List AV} {x : Int}  (h : am_code m pc = some (.lstore 10, 2, a, b, c, d)) (hp : pc + 2 = n) (hl : am_isL a9 = false) (k : Ou m n (a0 :: a1 :: a2 :: a3 :: a4 :: a5 :: a6 :: a7 :: a8 :: a9 :: vL x :: vN :: tl) st g r Q) : Ou m pc (a0 :: a1 :: a2 :: a3 :: a4 :: a5 :: a6 :: a7 :: a8 :: a9 :: a10 :: a11 :: tl) (vL x :: st) g r Q := by
  subst hp
  refine o_step h rfl rfl ?_ k
  have hc : 10 + 1 < (a0 :: a1 :: a2 :: a3 :: a4 :: a5 :: a6 :: a7 :: a8 :: a9 :: a10 :: a11 :: tl).length ∧ am_pre (a0 :: a1 :: a2 :: a3 :: a4 :: a5 :: a6 :: a7 :: a8 :: a9 :: a10 :: a11 :: tl) 10 = false := ⟨by simp only [List.length_cons]; first | omega | (simp; omega), by exact hl⟩
  simp only [am_step, am_ld, am_cst, am_sto, am_sL, am_s2, am_nth, if_pos hc]
  rfl
theorem o_istore_11 {a0 a1 a2 a3 a4 a5 a6 a7 a8 a9 a10 a11 : AV} {tl : List AV} {x : Int} (h : am_code m pc = some (.istore 11, 2, a, b, c, d)) (hp : pc + 2 = n) (hl : am_isL a10 = false) (k : Ou m n (a0 :: a1 :: a2 :: a3 :: a4 :: a5 :: a6 :: a7 :: a8 :: a9 :: a10 :: vI x :: tl) st g r Q) : Ou m pc (a0 :: a1 :: a2 :: a3 :: a4 :: a5 :: a6 :: a7 :: a8 :: a9 :: a10 :: a11 :: tl) (vI x :: st) g r Q := by
  subst hp
  refine o_step h rfl rfl ?_ k
  have hc : 11 < (a0 :: a1 :: a2 :: a3 :: a4 :: a5 :: a6 :: a7 :: a8 :: a9 :: a10 :: a11 :: tl).length ∧ am_pre (a0 :: a1 :: a2 :: a3 :: a4 :: a5 :: a6 :: a7 :: a8 :: a9 :: a10 :: a11 :: tl) 11 = false := ⟨by simp only [List.length_cons]; first | omega | (show _ < _ + 1; omega) | exact Nat.le_of_ble_eq_true rfl | (simp; omega), by exact hl⟩
  simp only [am_step, am_ld, am_cst, am_sto, am_sI, am_s1, am_nth, if_pos hc]
  rfl
theorem o_astore_11 {a0 a1 a2 a3 a4 a5 a6 a7 a8 a9 a10 a11 : AV} {tl : List AV} {x : Nat} {i : Int} (h : am_code m pc = some (.astore 11, 2, a, b, c, d)) (hp : pc + 2 = n) (hl : am_isL a10 = false) (k : Ou m n (a0 :: a1 :: a2 :: a3 :: a4 :: a5 :: a6 :: a7 :: a8 :: a9 :: a10 :: vR x i :: tl) st g r Q) : Ou m pc (a0 :: a1 :: a2 :: a3 :: a4 :: a5 :: a6 :: a7 :: a8 :: a9 :: a10 :: a11 :: tl) (vR x i :: st) g r Q := by
  subst hp
  refine o_step h rfl rfl ?_ k
  have hc : 11 < (a0 :: a1 :: a2 :: a3 :: a4 :: a5 :: a6 :: a7 :: a8 :: a9 :: a10 :: a11 :: tl).length ∧ am_pre (a0 :: a1 :: a2 :: a3 :: a4 :: a5 :: a6 :: a7 :: a8 :: a9 :: a10 :: a11 :: tl) 11 = false := ⟨by simp only [List.length_cons]; first | omega | (show _ < _ + 1; omega) | exact Nat.le_of_ble_eq_true rfl | (simp; omega), by exact hl⟩
  simp only [am_step, am_ld, am_cst, am_sto, am_sR, am_s1, am_nth, if_pos hc]
  rfl
theorem o_iinc_11 {a0 a1 a2 a3 a4 a5 a6 a7 a8 a9 a10 : AV} {tl : List AV} {x z : Int}  (h : am_code m pc = some (.iinc 11 z, 3, a, b, c, d)) (hp : pc + 3 = n) (hl : am_isL a10 = false) (hi : inI (x + z)) (k : Ou m n (a0 :: a1 :: a2 :: a3 :: a4 :: a5 :: a6 :: a7 :: a8 :: a9 :: a10 :: vI (x + z) :: tl) st g r Q) : Ou m pc (a0 :: a1 :: a2 :: a3 :: a4 :: a5 :: a6 :: a7 :: a8 :: a9 :: a10 :: vI x :: tl) st g r Q := by
  subst hp
  refine o_step h rfl rfl ?_ k
  have hc : 11 < (a0 :: a1 :: a2 :: a3 :: a4 :: a5 :: a6 :: a7 :: a8 :: a9 :: a10 :: vI x :: tl).length ∧ am_pre (a0 :: a1 :: a2 :: a3 :: a4 :: a5 :: a6 :: a7 :: a8 :: a9 :: a10 :: vI x :: tl) 11 = false := ⟨by simp only [List.length_cons]; omega, by exact hl⟩
  simp only [am_step, am_ld, am_cst, am_sto, am_sN, am_s1, am_nth, if_pos hi, if_pos hc]
  rfl
theorem o_lstore_11 {a0 a1 a2 a3 a4 a5 a6 a7 a8 a9 a10 a11 a12 : AV} {tl : List AV} {x : Int}  (h : am_code m pc = some (.lstore 11, 2, a, b, c, d)) (hp : pc + 2 = n) (hl : am_isL a10 = false) (k : Ou m n (a0 :: a1 :: a2 :: a3 :: a4 :: a5 :: a6 :: a7 :: a8 :: a9 :: a10 :: vL x :: vN :: tl) st g r Q) : Ou m pc (a0 :: a1 :: a2 :: a3 :: a4 :: a5 :: a6 :: a7 :: a8 :: a9 :: a10 :: a11 :: a12 :: tl) (vL x :: st) g r Q := by
  subst hp
  refine o_step h rfl rfl ?_ k
  have hc : 11 + 1 < (a0 :: a1 :: a2 :: a3 :: a4 :: a5 :: a6 :: a7 :: a8 :: a9 :: a10 :: a11 :: a12 :: tl).length ∧ am_pre (a0 :: a1 :: a2 :: a3 :: a4 :: a5 :: a6 :: a7 :: a8 :: a9 :: a10 :: a11 :: a12 :: tl) 11 = false := ⟨by simp only [List.length_cons]; first | omega | (simp; omega), by exact hl⟩
  simp only [am_step, am_ld, am_cst, am_sto, am_sL, am_s2, am_nth, if_pos hc]
  rfl
theorem o_istore_12 {a0 a1 a2 a3 a4 a5 a6 a7 a8 a9 a10 a11 a12 : AV} {tl : List AV} {x : Int} (h : am_code m pc = some (.istore 12, 2, a, b, c, d)) (hp : pc + 2 = n) (hl : am_isL a11 = false) (k : Ou m n (a0 :: a1 :: a2 :: a3 :: a4 :: a5 :: a6 :: a7 :: a8 :: a9 :: a10 :: a11 :: vI x :: tl) st g r Q) : Ou m pc (a0 :: a1 :: a2 :: a3 :: a4 :: a5 :: a6 :: a7 :: a8 :: a9 :: a10 :: a11 :: a12 :: tl) (vI x :: st) g r Q := by
  subst hp
  refine o_step h rfl rfl ?_ k
  have hc : 12 < (a0 :: a1 :: a2 :: a3 :: a4 :: a5 :: a6 :: a7 :: a8 :: a9 :: a10 :: a11 :: a12 :: tl).length ∧ am_pre (a0 :: a1 :: a2 :: a3 :: a4 :: a5 :: a6 :: a7 :: a8 :: a9 :: a10 :: a11 :: a12 :: tl) 12 = false := ⟨by simp only [List.length_cons]; first | omega | (show _ < _ + 1; omega) | exact Nat.le_of_ble_eq_true rfl | (simp; omega), by exact hl⟩
  simp only [am_step, am_ld, am_cst, am_sto, am_sI, am_s1, am_nth, if_pos hc]
  rfl
theorem o_astore_12 {a0 a1 a2 a3 a4 a5 a6 a7 a8 a9 a10 a11 a12 : AV} {tl : List AV} {x : Nat} {i : Int} (h : am_code m pc = some (.astore 12, 2, a, b, c, d)) (hp : pc + 2 = n) (hl : am_isL a11 = false) (k : Ou m n (a0 :: a1 :: a2 :: a3 :: a4 :: a5 :: a6 :: a7 :: a8 :: a9 :: a10 :: a11 :: vR x i :: tl) st g r Q) : Ou m pc (a0 :: a1 :: a2 :: a3 :: a4 :: a5 :: a6 :: a7 :: a8 :: a9 :: a10 :: a11 :: a12 :: tl) (vR x i :: st) g r Q := by
  subst hp
  refine o_step h rfl rfl ?_ k
  have hc : 12 < (a0 :: a1 :: a2 :: a3 :: a4 :: a5 :: a6 :: a7 :: a8 :: a9 :: a10 :: a11 :: a12 :: tl).length ∧ am_pre (a0 :: a1 :: a2 :: a3 :: a4 :: a5 :: a6 :: a7 :: a8 :: a9 :: a10 :: a11 :: a12 :: tl) 12 = false := ⟨by simp only [List.length_cons]; first | omega | (show _ < _ + 1; omega) | exact Nat.le_of_ble_eq_true rfl | (simp; omega), by exact hl⟩
  simp only [am_step, am_ld, am_cst, am_sto, am_sR, am_s1, am_nth, if_pos hc]
  rfl
theorem o_iinc_12 {a0 a1 a2 a3 a4 a5 a6 a7 a8 a9 a10 a11 : AV} {tl : List AV} {x z : Int}  (h : am_code m pc = some (.iinc 12 z, 3, a, b, c, d)) (hp : pc + 3 = n) (hl : am_isL a11 = false) (hi : inI (x + z)) (k : Ou m n (a0 :: a1 :: a2 :: a3 :: a4 :: a5 :: a6 :: a7 :: a8 :: a9 :: a10 :: a11 :: vI (x + z) :: tl) st g r Q) : Ou m pc (a0 :: a1 :: a2 :: a3 :: a4 :: a5 :: a6 :: a7 :: a8 :: a9 :: a10 :: a11 :: vI x :: tl) st g r Q := by
  subst hp
  refine o_step h rfl rfl ?_ k
  have hc : 12 < (a0 :: a1 :: a2 :: a3 :: a4 :: a5 :: a6 :: a7 :: a8 :: a9 :: a10 :: a11 :: vI x :: tl).length ∧ am_pre (a0 :: a1 :: a2 :: a3 :: a4 :: a5 :: a6 :: a7 :: a8 :: a9 :: a10 :: a11 :: vI x :: tl) 12 = false := ⟨by simp only [List.length_cons]; omega, by exact hl⟩
  simp only [am_step, am_ld, am_cst, am_sto, am_sN, am_s1, am_nth, if_pos hi, if_pos hc]
  rfl
theorem o_lstore_12 {a0 a1 a2 a3 a4 a5 a6 a7 a8 a9 a10 a11 a12 a13 : AV} {tl : List AV} {x : Int}  (h : am_code m pc = some (.lstore 12, 2, a, b, c, d)) (hp : pc + 2 = n) (hl : am_isL a11 = false) (k : Ou m n (a0 :: a1 :: a2 :: a3 :: a4 :: a5 :: a6 :: a7 :: a8 :: a9 :: a10 :: a11 :: vL x :: vN :: tl) st g r Q) : Ou m pc (a0 :: a1 :: a2 :: a3 :: a4 :: a5 :: a6 :: a7 :: a8 :: a9 :: a10 :: a11 :: a12 :: a13 :: tl) (vL x :: st) g r Q := by
  subst hp
  refine o_step h rfl rfl ?_ k
  have hc : 12 + 1 < (a0 :: a1 :: a2 :: a3 :: a4 :: a5 :: a6 :: a7 :: a8 :: a9 :: a10 :: a11 :: a12 :: a13 :: tl).length ∧ am_pre (a0 :: a1 :: a2 :: a3 :: a4 :: a5 :: a6 :: a7 :: a8 :: a9 :: a10 :: a11 :: a12 :: a13 :: tl) 12 = false := ⟨by simp only [List.length_cons]; first | omega | (simp; omega), by exact hl⟩
  simp only [am_step, am_ld, am_cst, am_sto, am_sL, am_s2, am_nth, if_pos hc]
  rfl
theorem o_iadd {x y : Int}  (h : am_code m pc = some (.iadd, 1, a, b, c, d)) (hp : pc + 1 = n) (hi : inI (x + y)) (k : Ou m n ls (vI (x + y) :: st) g r Q) : Ou m pc ls (vI y :: vI x :: st) g r Q := by
  subst hp
  refine o_step h rfl rfl ?_ k
  simp only [am_step, am_ld, am_cst, am_sto, am_op, am_i2, am_ri, if_pos hi]
theorem o_isub {x y : Int}  (h : am_code m pc = some (.isub, 1, a, b, c, d)) (hp : pc + 1 = n) (hi : inI (x - y)) (k : Ou m n ls (vI (x - y) :: st) g r Q) : Ou m pc ls (vI y :: vI x :: st) g r Q := by
  subst hp
  refine o_step h rfl rfl ?_ k
  simp only [am_step, am_ld, am_cst, am_sto, am_op, am_i2, am_ri, if_pos hi]
theorem o_imul {x y : Int}  (h : am_code m pc = some (.imul, 1, a, b, c, d)) (hp : pc + 1 = n) (hi : inI (x * y)) (k : Ou m n ls (vI (x * y) :: st) g r Q) : Ou m pc ls (vI y :: vI x :: st) g r Q := by
  subst hp
  refine o_step h rfl rfl ?_ k
  simp only [am_step, am_ld, am_cst, am_sto, am_op, am_i2, am_ri, if_pos hi]
theorem o_idiv {x y : Int}  (h : am_code m pc = some (.idiv, 1, a, b, c, d)) (hp : pc + 1 = n) (hi : 0 ≤ x ∧ 0 < y) (k : Ou m n ls (vI (x / y) :: st) g r Q) : Ou m pc ls (vI y :: vI x :: st) g r Q := by
  subst hp
  refine o_step h rfl rfl ?_ k
  simp only [am_step, am_ld, am_cst, am_sto, am_op, am_i2, if_pos hi]
theorem o_irem {x y : Int}  (h : am_code m pc = some (.irem, 1, a, b, c, d)) (hp : pc + 1 = n) (hi : 0 ≤ x ∧ 0 < y) (k : Ou m n ls (vI (x % y) :: st) g r Q) : Ou m pc ls (vI y :: vI x :: st) g r Q := by
  subst hp
  refine o_step h rfl rfl ?_ k
  simp only [am_step, am_ld, am_cst, am_sto, am_op, am_i2, if_pos hi]
theorem o_iand {x y : Int}  (h : am_code m pc = some (.iand, 1, a, b, c, d)) (hp : pc + 1 = n) (k : Ou m n ls (vI (am_and x y) :: st) g r Q) : Ou m pc ls (vI y :: vI x :: st) g r Q := by
  subst hp
  refine o_step h rfl rfl ?_ k
  simp only [am_step, am_ld, am_cst, am_sto, am_op, am_i2]
theorem o_ior {x y : Int}  (h : am_code m pc = some (.ior, 1, a, b, c, d)) (hp : pc + 1 = n) (k : Ou m n ls (vI (am_or x y) :: st) g r Q) : Ou m pc ls (vI y :: vI x :: st) g r Q := by
  subst hp
  refine o_step h rfl rfl ?_ k
  simp only [am_step, am_ld, am_cst, am_sto, am_op, am_i2]
theorem o_ixor {x y : Int}  (h : am_code m pc = some (.ixor, 1, a, b, c, d)) (hp : pc + 1 = n) (k : Ou m n ls (vI (am_xor x y) :: st) g r Q) : Ou m pc ls (vI y :: vI x :: st) g r Q := by
  subst hp
  refine o_step h rfl rfl ?_ k
  simp only [am_step, am_ld, am_cst, am_sto, am_op, am_i2]
theorem o_ishl {x y : Int}  (h : am_code m pc = some (.ishl, 1, a, b, c, d)) (hp : pc + 1 = n) (k : Ou m n ls (vI (am_shl x y) :: st) g r Q) : Ou m pc ls (vI y :: vI x :: st) g r Q := by
  subst hp
  refine o_step h rfl rfl ?_ k
  simp only [am_step, am_ld, am_cst, am_sto, am_op, am_i2]
theorem o_ishr {x y : Int}  (h : am_code m pc = some (.ishr, 1, a, b, c, d)) (hp : pc + 1 = n) (k : Ou m n ls (vI (am_shr x y) :: st) g r Q) : Ou m pc ls (vI y :: vI x :: st) g r Q := by
  subst hp
  refine o_step h rfl rfl ?_ k
  simp only [am_step, am_ld, am_cst, am_sto, am_op, am_i2]
theorem o_iushr {x y : Int}  (h : am_code m pc = some (.iushr, 1, a, b, c, d)) (hp : pc + 1 = n) (k : Ou m n ls (vI (am_ush x y) :: st) g r Q) : Ou m pc ls (vI y :: vI x :: st) g r Q := by
  subst hp
  refine o_step h rfl rfl ?_ k
  simp only [am_step, am_ld, am_cst, am_sto, am_op, am_i2]
theorem o_ladd {x y : Int}  (h : am_code m pc = some (.ladd, 1, a, b, c, d)) (hp : pc + 1 = n) (k : Ou m n ls (vL (am_wl (x + y)) :: st) g r Q) : Ou m pc ls (vL y :: vL x :: st) g r Q := by
  subst hp
  refine o_step h rfl rfl ?_ k
  simp only [am_step, am_ld, am_cst, am_sto, am_op, am_l2]
theorem o_lmul {x y : Int}  (h : am_code m pc = some (.lmul, 1, a, b, c, d)) (hp : pc + 1 = n) (k : Ou m n ls (vL (am_wl (x * y)) :: st) g r Q) : Ou m pc ls (vL y :: vL x :: st) g r Q := by
  subst hp
  refine o_step h rfl rfl ?_ k
  simp only [am_step, am_ld, am_cst, am_sto, am_op, am_l2]
theorem am_wlid {x : Int} (h : inL x) : am_wl x = x := am_toL h
theorem am_wiid {x : Int} (h : inI x) : am_wi x = x := am_toI h
theorem o_laddN {x y : Int} (h : am_code m pc = some (.ladd, 1, a, b, c, d)) (hp : pc + 1 = n) (hi : inL (x + y)) (k : Ou m n ls (vL (x + y) :: st) g r Q) : Ou m pc ls (vL y :: vL x :: st) g r Q := o_ladd h hp (by rw [am_wlid hi]; exact k)
theorem o_lmulN {x y : Int} (h : am_code m pc = some (.lmul, 1, a, b, c, d)) (hp : pc + 1 = n) (hi : inL (x * y)) (k : Ou m n ls (vL (x * y) :: st) g r Q) : Ou m pc ls (vL y :: vL x :: st) g r Q := o_lmul h hp (by rw [am_wlid hi]; exact k)
theorem o_i2l {x : Int}  (h : am_code m pc = some (.i2l, 1, a, b, c, d)) (hp : pc + 1 = n) (k : Ou m n ls (vL x :: st) g r Q) : Ou m pc ls (vI x :: st) g r Q := by
  subst hp
  refine o_step h rfl rfl ?_ k
  simp only [am_step, am_ld, am_cst, am_sto, am_op, am_i1]
theorem o_l2i {x : Int}  (h : am_code m pc = some (.l2i, 1, a, b, c, d)) (hp : pc + 1 = n) (k : Ou m n ls (vI (am_wi x) :: st) g r Q) : Ou m pc ls (vL x :: st) g r Q := by
  subst hp
  refine o_step h rfl rfl ?_ k
  simp only [am_step, am_ld, am_cst, am_sto, am_op, am_l1]
theorem o_l2iN {x : Int} (h : am_code m pc = some (.l2i, 1, a, b, c, d)) (hp : pc + 1 = n) (hi : inI x) (k : Ou m n ls (vI x :: st) g r Q) : Ou m pc ls (vL x :: st) g r Q := o_l2i h hp (by rw [am_wiid hi]; exact k)
theorem o_i2b {x : Int}  (h : am_code m pc = some (.i2b, 1, a, b, c, d)) (hp : pc + 1 = n) (k : Ou m n ls (vI (am_i2b x) :: st) g r Q) : Ou m pc ls (vI x :: st) g r Q := by
  subst hp
  refine o_step h rfl rfl ?_ k
  simp only [am_step, am_ld, am_cst, am_sto, am_op, am_i1]
theorem o_i2s {x : Int}  (h : am_code m pc = some (.i2s, 1, a, b, c, d)) (hp : pc + 1 = n) (k : Ou m n ls (vI (am_i2s x) :: st) g r Q) : Ou m pc ls (vI x :: st) g r Q := by
  subst hp
  refine o_step h rfl rfl ?_ k
  simp only [am_step, am_ld, am_cst, am_sto, am_op, am_i1]
theorem o_dup {v : AV}  (h : am_code m pc = some (.dup, 1, a, b, c, d)) (hp : pc + 1 = n) (hv : am_isL v = false) (k : Ou m n ls (v :: v :: st) g r Q) : Ou m pc ls (v :: st) g r Q := by
  subst hp
  refine o_step h rfl rfl ?_ k
  simp only [am_step, am_ld, am_cst, am_sto, am_op, am_v1, hv]
  rfl
theorem o_dup2 {v w : AV}  (h : am_code m pc = some (.dup2, 1, a, b, c, d)) (hp : pc + 1 = n) (hv : am_isL v = false) (hw : am_isL w = false) (k : Ou m n ls (v :: w :: v :: w :: st) g r Q) : Ou m pc ls (v :: w :: st) g r Q := by
  subst hp
  refine o_step h rfl rfl ?_ k
  simp only [am_step, am_ld, am_cst, am_sto, am_op, am_v1, hv, hw]
  rfl
theorem o_pop {v : AV}  (h : am_code m pc = some (.pop, 1, a, b, c, d)) (hp : pc + 1 = n) (hv : am_isL v = false) (k : Ou m n ls st g r Q) : Ou m pc ls (v :: st) g r Q := by
  subst hp
  refine o_step h rfl rfl ?_ k
  simp only [am_step, am_ld, am_cst, am_sto, am_op, am_v1, hv]
  rfl
theorem o_goto {z : Int} {t : Nat} (h : am_code m pc = some (.goto z, 3, a, b, c, d)) (ht : a.toNat = t) (k : Ou m t ls st g r Q) : Ou m pc ls st g r Q := by
  subst ht
  refine o_step h rfl rfl ?_ k
  simp only [am_step, am_ld, am_cst, am_sto, am_op, am_br]
theorem o_icmp_eq {x y z : Int} {t : Nat} (h : am_code m pc = some (.if_icmp .eq z, 3, a, b, c, d)) (hp : pc + 3 = n) (ht : a.toNat = t) (kt : x = y → Ou m t ls st g r Q) (kf : x ≠ y → Ou m n ls st g r Q) : Ou m pc ls (vI y :: vI x :: st) g r Q := by
  subst hp; subst ht
  by_cases hc : x = y
  · refine o_step h rfl rfl ?_ (kt hc)
    simp only [am_step, am_ld, am_cst, am_sto, am_op, am_br, am_b2, am_cb, ne_eq, hc, decide_true, not_false_eq_true, if_true]
  · refine o_step h rfl rfl ?_ (kf (by omega))
    simp only [am_step, am_ld, am_cst, am_sto, am_op, am_br, am_b2, am_cb, hc, decide_false]
    rfl
theorem o_if_eq {x z : Int} {t : Nat} (h : am_code m pc = some (.ifCond .eq z, 3, a, b, c, d)) (hp : pc + 3 = n) (ht : a.toNat = t) (kt : x = 0 → Ou m t ls st g r Q) (kf : x ≠ 0 → Ou m n ls st g r Q) : Ou m pc ls (vI x :: st) g r Q := by
  subst hp; subst ht
  by_cases hc : x = 0
  · refine o_step h rfl rfl ?_ (kt hc)
    simp only [am_step, am_ld, am_cst, am_sto, am_op, am_br, am_b1, am_cb, ne_eq, hc, decide_true, not_false_eq_true, if_true]
  · refine o_step h rfl rfl ?_ (kf (by omega))
    simp only [am_step, am_ld, am_cst, am_sto, am_op, am_br, am_b1, am_cb, hc, decide_false]
    rfl
theorem o_lcmp_eq {x y z : Int} {t : Nat} {a2 : Int} {b2 c2 d2 : Nat} (h : am_code m pc = some (.lcmp, 1, a, b, c, d)) (h2 : am_code m (pc + 1) = some (.ifCond .eq z, 3, a2, b2, c2, d2)) (hp : pc + 4 = n) (ht : a2.toNat = t) (kt : x = y → Ou m t ls st g r Q) (kf : x ≠ y → Ou m n ls st g r Q) : Ou m pc ls (vL y :: vL x :: st) g r Q := by
  refine o_step (pc' := pc + 1) (ls' := ls) (st' := vI (am_cmp x y) :: st) (g' := g) (r' := r) h rfl rfl ?_ ?_
  · simp only [am_step, am_ld, am_cst, am_sto, am_op, am_l2]
  · refine o_if_eq h2 hp ht (fun hc => kt ?_) (fun hc => kf ?_)
    · unfold am_cmp at hc
      repeat' split at hc
      all_goals omega
    · unfold am_cmp at hc
      repeat' split at hc
      all_goals omega
theorem o_icmp_ne {x y z : Int} {t : Nat} (h : am_code m pc = some (.if_icmp .ne z, 3, a, b, c, d)) (hp : pc + 3 = n) (ht : a.toNat = t) (kt : x ≠ y → Ou m t ls st g r Q) (kf : x = y → Ou m n ls st g r Q) : Ou m pc ls (vI y :: vI x :: st) g r Q := by
  subst hp; subst ht
  by_cases hc : x ≠ y
  · refine o_step h rfl rfl ?_ (kt hc)
    simp only [am_step, am_ld, am_cst, am_sto, am_op, am_br, am_b2, am_cb, ne_eq, hc, decide_true, not_false_eq_true, if_true]
  · refine o_step h rfl rfl ?_ (kf (by omega))
    simp only [am_step, am_ld, am_cst, am_sto, am_op, am_br, am_b2, am_cb, hc, decide_false]
    rfl
theorem o_if_ne {x z : Int} {t : Nat} (h : am_code m pc = some (.ifCond .ne z, 3, a, b, c, d)) (hp : pc + 3 = n) (ht : a.toNat = t) (kt : x ≠ 0 → Ou m t ls st g r Q) (kf : x = 0 → Ou m n ls st g r Q) : Ou m pc ls (vI x :: st) g r Q := by
  subst hp; subst ht
  by_cases hc : x ≠ 0
  · refine o_step h rfl rfl ?_ (kt hc)
    simp only [am_step, am_ld, am_cst, am_sto, am_op, am_br, am_b1, am_cb, ne_eq, hc, decide_true, not_false_eq_true, if_true]
  · refine o_step h rfl rfl ?_ (kf (by omega))
    simp only [am_step, am_ld, am_cst, am_sto, am_op, am_br, am_b1, am_cb, hc, decide_false]
    rfl
theorem o_lcmp_ne {x y z : Int} {t : Nat} {a2 : Int} {b2 c2 d2 : Nat} (h : am_code m pc = some (.lcmp, 1, a, b, c, d)) (h2 : am_code m (pc + 1) = some (.ifCond .ne z, 3, a2, b2, c2, d2)) (hp : pc + 4 = n) (ht : a2.toNat = t) (kt : x ≠ y → Ou m t ls st g r Q) (kf : x = y → Ou m n ls st g r Q) : Ou m pc ls (vL y :: vL x :: st) g r Q := by
  refine o_step (pc' := pc + 1) (ls' := ls) (st' := vI (am_cmp x y) :: st) (g' := g) (r' := r) h rfl rfl ?_ ?_
  · simp only [am_step, am_ld, am_cst, am_sto, am_op, am_l2]
  · refine o_if_ne h2 hp ht (fun hc => kt ?_) (fun hc => kf ?_)
    · unfold am_cmp at hc
      repeat' split at hc
      all_goals omega
    · unfold am_cmp at hc
      repeat' split at hc
      all_goals omega
theorem o_icmp_lt {x y z : Int} {t : Nat} (h : am_code m pc = some (.if_icmp .lt z, 3, a, b, c, d)) (hp : pc + 3 = n) (ht : a.toNat = t) (kt : x < y → Ou m t ls st g r Q) (kf : y ≤ x → Ou m n ls st g r Q) : Ou m pc ls (vI y :: vI x :: st) g r Q := by
  subst hp; subst ht
  by_cases hc : x < y
  · refine o_step h rfl rfl ?_ (kt hc)
    simp only [am_step, am_ld, am_cst, am_sto, am_op, am_br, am_b2, am_cb, ne_eq, hc, decide_true, not_false_eq_true, if_true]
  · refine o_step h rfl rfl ?_ (kf (by omega))
    simp only [am_step, am_ld, am_cst, am_sto, am_op, am_br, am_b2, am_cb, hc, decide_false]
    rfl
theorem o_if_lt {x z : Int} {t : Nat} (h : am_code m pc = some (.ifCond .lt z, 3, a, b, c, d)) (hp : pc + 3 = n) (ht : a.toNat = t) (kt : x < 0 → Ou m t ls st g r Q) (kf : 0 ≤ x → Ou m n ls st g r Q) : Ou m pc ls (vI x :: st) g r Q := by
  subst hp; subst ht
  by_cases hc : x < 0
  · refine o_step h rfl rfl ?_ (kt hc)
    simp only [am_step, am_ld, am_cst, am_sto, am_op, am_br, am_b1, am_cb, ne_eq, hc, decide_true, not_false_eq_true, if_true]
  · refine o_step h rfl rfl ?_ (kf (by omega))
    simp only [am_step, am_ld, am_cst, am_sto, am_op, am_br, am_b1, am_cb, hc, decide_false]
    rfl
theorem o_lcmp_lt {x y z : Int} {t : Nat} {a2 : Int} {b2 c2 d2 : Nat} (h : am_code m pc = some (.lcmp, 1, a, b, c, d)) (h2 : am_code m (pc + 1) = some (.ifCond .lt z, 3, a2, b2, c2, d2)) (hp : pc + 4 = n) (ht : a2.toNat = t) (kt : x < y → Ou m t ls st g r Q) (kf : y ≤ x → Ou m n ls st g r Q) : Ou m pc ls (vL y :: vL x :: st) g r Q := by
  refine o_step (pc' := pc + 1) (ls' := ls) (st' := vI (am_cmp x y) :: st) (g' := g) (r' := r) h rfl rfl ?_ ?_
  · simp only [am_step, am_ld, am_cst, am_sto, am_op, am_l2]
  · refine o_if_lt h2 hp ht (fun hc => kt ?_) (fun hc => kf ?_)
    · unfold am_cmp at hc
      repeat' split at hc
      all_goals omega
    · unfold am_cmp at hc
      repeat' split at hc
      all_goals omega
theorem o_icmp_ge {x y z : Int} {t : Nat} (h : am_code m pc = some (.if_icmp .ge z, 3, a, b, c, d)) (hp : pc + 3 = n) (ht : a.toNat = t) (kt : y ≤ x → Ou m t ls st g r Q) (kf : x < y → Ou m n ls st g r Q) : Ou m pc ls (vI y :: vI x :: st) g r Q := by
  subst hp; subst ht
  by_cases hc : y ≤ x
  · refine o_step h rfl rfl ?_ (kt hc)
    simp only [am_step, am_ld, am_cst, am_sto, am_op, am_br, am_b2, am_cb, ne_eq, hc, decide_true, not_false_eq_true, if_true]
  · refine o_step h rfl rfl ?_ (kf (by omega))
    simp only [am_step, am_ld, am_cst, am_sto, am_op, am_br, am_b2, am_cb, hc, decide_false]
    rfl
theorem o_if_ge {x z : Int} {t : Nat} (h : am_code m pc = some (.ifCond .ge z, 3, a, b, c, d)) (hp : pc + 3 = n) (ht : a.toNat = t) (kt : 0 ≤ x → Ou m t ls st g r Q) (kf : x < 0 → Ou m n ls st g r Q) : Ou m pc ls (vI x :: st) g r Q := by
  subst hp; subst ht
  by_cases hc : 0 ≤ x
  · refine o_step h rfl rfl ?_ (kt hc)
    simp only [am_step, am_ld, am_cst, am_sto, am_op, am_br, am_b1, am_cb, ne_eq, hc, decide_true, not_false_eq_true, if_true]
  · refine o_step h rfl rfl ?_ (kf (by omega))
    simp only [am_step, am_ld, am_cst, am_sto, am_op, am_br, am_b1, am_cb, hc, decide_false]
    rfl
theorem o_lcmp_ge {x y z : Int} {t : Nat} {a2 : Int} {b2 c2 d2 : Nat} (h : am_code m pc = some (.lcmp, 1, a, b, c, d)) (h2 : am_code m (pc + 1) = some (.ifCond .ge z, 3, a2, b2, c2, d2)) (hp : pc + 4 = n) (ht : a2.toNat = t) (kt : y ≤ x → Ou m t ls st g r Q) (kf : x < y → Ou m n ls st g r Q) : Ou m pc ls (vL y :: vL x :: st) g r Q := by
  refine o_step (pc' := pc + 1) (ls' := ls) (st' := vI (am_cmp x y) :: st) (g' := g) (r' := r) h rfl rfl ?_ ?_
  · simp only [am_step, am_ld, am_cst, am_sto, am_op, am_l2]
  · refine o_if_ge h2 hp ht (fun hc => kt ?_) (fun hc => kf ?_)
    · unfold am_cmp at hc
      repeat' split at hc
      all_goals omega
    · unfold am_cmp at hc
      repeat' split at hc
      all_goals omega
theorem o_icmp_gt {x y z : Int} {t : Nat} (h : am_code m pc = some (.if_icmp .gt z, 3, a, b, c, d)) (hp : pc + 3 = n) (ht : a.toNat = t) (kt : y < x → Ou m t ls st g r Q) (kf : x ≤ y → Ou m n ls st g r Q) : Ou m pc ls (vI y :: vI x :: st) g r Q := by
  subst hp; subst ht
  by_cases hc : y < x
  · refine o_step h rfl rfl ?_ (kt hc)
    simp only [am_step, am_ld, am_cst, am_sto, am_op, am_br, am_b2, am_cb, ne_eq, hc, decide_true, not_false_eq_true, if_true]
  · refine o_step h rfl rfl ?_ (kf (by omega))
    simp only [am_step, am_ld, am_cst, am_sto, am_op, am_br, am_b2, am_cb, hc, decide_false]
    rfl
theorem o_if_gt {x z : Int} {t : Nat} (h : am_code m pc = some (.ifCond .gt z, 3, a, b, c, d)) (hp : pc + 3 = n) (ht : a.toNat = t) (kt : 0 < x → Ou m t ls st g r Q) (kf : x ≤ 0 → Ou m n ls st g r Q) : Ou m pc ls (vI x :: st) g r Q := by
  subst hp; subst ht
  by_cases hc : 0 < x
  · refine o_step h rfl rfl ?_ (kt hc)
    simp only [am_step, am_ld, am_cst, am_sto, am_op, am_br, am_b1, am_cb, ne_eq, hc, decide_true, not_false_eq_true, if_true]
  · refine o_step h rfl rfl ?_ (kf (by omega))
    simp only [am_step, am_ld, am_cst, am_sto, am_op, am_br, am_b1, am_cb, hc, decide_false]
    rfl
theorem o_lcmp_gt {x y z : Int} {t : Nat} {a2 : Int} {b2 c2 d2 : Nat} (h : am_code m pc = some (.lcmp, 1, a, b, c, d)) (h2 : am_code m (pc + 1) = some (.ifCond .gt z, 3, a2, b2, c2, d2)) (hp : pc + 4 = n) (ht : a2.toNat = t) (kt : y < x → Ou m t ls st g r Q) (kf : x ≤ y → Ou m n ls st g r Q) : Ou m pc ls (vL y :: vL x :: st) g r Q := by
  refine o_step (pc' := pc + 1) (ls' := ls) (st' := vI (am_cmp x y) :: st) (g' := g) (r' := r) h rfl rfl ?_ ?_
  · simp only [am_step, am_ld, am_cst, am_sto, am_op, am_l2]
  · refine o_if_gt h2 hp ht (fun hc => kt ?_) (fun hc => kf ?_)
    · unfold am_cmp at hc
      repeat' split at hc
      all_goals omega
    · unfold am_cmp at hc
      repeat' split at hc
      all_goals omega
theorem o_icmp_le {x y z : Int} {t : Nat} (h : am_code m pc = some (.if_icmp .le z, 3, a, b, c, d)) (hp : pc + 3 = n) (ht : a.toNat = t) (kt : x ≤ y → Ou m t ls st g r Q) (kf : y < x → Ou m n ls st g r Q) : Ou m pc ls (vI y :: vI x :: st) g r Q := by
  subst hp; subst ht
  by_cases hc : x ≤ y
  · refine o_step h rfl rfl ?_ (kt hc)
    simp only [am_step, am_ld, am_cst, am_sto, am_op, am_br, am_b2, am_cb, ne_eq, hc, decide_true, not_false_eq_true, if_true]
  · refine o_step h rfl rfl ?_ (kf (by omega))
    simp only [am_step, am_ld, am_cst, am_sto, am_op, am_br, am_b2, am_cb, hc, decide_false]
    rfl
theorem o_if_le {x z : Int} {t : Nat} (h : am_code m pc = some (.ifCond .le z, 3, a, b, c, d)) (hp : pc + 3 = n) (ht : a.toNat = t) (kt : x ≤ 0 → Ou m t ls st g r Q) (kf : 0 < x → Ou m n ls st g r Q) : Ou m pc ls (vI x :: st) g r Q := by
  subst hp; subst ht
  by_cases hc : x ≤ 0
  · refine o_step h rfl rfl ?_ (kt hc)
    simp only [am_step, am_ld, am_cst, am_sto, am_op, am_br, am_b1, am_cb, ne_eq, hc, decide_true, not_false_eq_true, if_true]
  · refine o_step h rfl rfl ?_ (kf (by omega))
    simp only [am_step, am_ld, am_cst, am_sto, am_op, am_br, am_b1, am_cb, hc, decide_false]
    rfl
theorem o_lcmp_le {x y z : Int} {t : Nat} {a2 : Int} {b2 c2 d2 : Nat} (h : am_code m pc = some (.lcmp, 1, a, b, c, d)) (h2 : am_code m (pc + 1) = some (.ifCond .le z, 3, a2, b2, c2, d2)) (hp : pc + 4 = n) (ht : a2.toNat = t) (kt : x ≤ y → Ou m t ls st g r Q) (kf : y < x → Ou m n ls st g r Q) : Ou m pc ls (vL y :: vL x :: st) g r Q := by
  refine o_step (pc' := pc + 1) (ls' := ls) (st' := vI (am_cmp x y) :: st) (g' := g) (r' := r) h rfl rfl ?_ ?_
  · simp only [am_step, am_ld, am_cst, am_sto, am_op, am_l2]
  · refine o_if_le h2 hp ht (fun hc => kt ?_) (fun hc => kf ?_)
    · unfold am_cmp at hc
      repeat' split at hc
      all_goals omega
    · unfold am_cmp at hc
      repeat' split at hc
      all_goals omega
theorem o_lcmp {x y : Int} (h : am_code m pc = some (.lcmp, 1, a, b, c, d)) (hp : pc + 1 = n) (k : Ou m n ls (vI (am_cmp x y) :: st) g r Q) : Ou m pc ls (vL y :: vL x :: st) g r Q := by
  subst hp
  refine o_step h rfl rfl ?_ k
  simp only [am_step, am_ld, am_cst, am_sto, am_op, am_l2]
theorem o_tabOut {x dd lo hi : Int} {os : Array Int} {len t : Nat} (h : am_code m pc = some (.tableswitch dd lo hi os, len, a, b, c, d)) (hx : x < lo ∨ hi < x) (ht : ((pc : Int) + dd).toNat = t) (k : Ou m t ls st g r Q) : Ou m pc ls (vI x :: st) g r Q := by
  subst ht
  refine o_step h rfl rfl ?_ k
  simp only [am_step, am_ld, am_cst, am_sto, am_op, am_br, am_b1, if_pos hx]
theorem o_tabIn {x dd lo hi : Int} {os : Array Int} {len t : Nat} (h : am_code m pc = some (.tableswitch dd lo hi os, len, a, b, c, d)) (hx : ¬ (x < lo ∨ hi < x)) (ht : ((pc : Int) + os.getD (x - lo).toNat 0).toNat = t) (k : Ou m t ls st g r Q) : Ou m pc ls (vI x :: st) g r Q := by
  subst ht
  refine o_step h rfl rfl ?_ k
  simp only [am_step, am_ld, am_cst, am_sto, am_op, am_br, am_b1, if_neg hx]
theorem o_look {x dd : Int} {ps : Array (Int × Int)} {len t : Nat} (h : am_code m pc = some (.lookupswitch dd ps, len, a, b, c, d)) (ht : ((pc : Int) + Op.lookupswitch.offset ps.toList dd x).toNat = t) (k : Ou m t ls st g r Q) : Ou m pc ls (vI x :: st) g r Q := by
  subst ht
  refine o_step h rfl rfl ?_ k
  simp only [am_step, am_ld, am_cst, am_sto, am_op, am_br, am_b1]
theorem am_okNA {k : Nat} {i : Int} (hk : k < 34) (h0 : 0 ≤ i) (h1 : i < am_cnt k) : am_okA NA k i = true := by
  unfold am_okA
  simp only [Bool.and_eq_true, decide_eq_true_eq]
  exact ⟨Nat.ble_eq_true_of_le hk, h0, h1, Nat.ble_eq_true_of_le (am_layoff hk h0 h1).1⟩
theorem ok_0 {i : Int} (h0 : 0 ≤ i) (h1 : i < 10) : am_okA NA 0 i = true := am_okNA (by decide) h0 h1
theorem ok_1 {i : Int} (h0 : 0 ≤ i) (h1 : i < 17) : am_okA NA 1 i = true := am_okNA (by decide) h0 h1
theorem ok_2 {i : Int} (h0 : 0 ≤ i) (h1 : i < 8) : am_okA NA 2 i = true := am_okNA (by decide) h0 h1
theorem ok_3 {i : Int} (h0 : 0 ≤ i) (h1 : i < 4) : am_okA NA 3 i = true := am_okNA (by decide) h0 h1
theorem ok_4 {i : Int} (h0 : 0 ≤ i) (h1 : i < 8) : am_okA NA 4 i = true := am_okNA (by decide) h0 h1
theorem ok_6 {i : Int} (h0 : 0 ≤ i) (h1 : i < 2) : am_okA NA 6 i = true := am_okNA (by decide) h0 h1
theorem ok_9 {i : Int} (h0 : 0 ≤ i) (h1 : i < 10) : am_okA NA 9 i = true := am_okNA (by decide) h0 h1
theorem ok_10 {i : Int} (h0 : 0 ≤ i) (h1 : i < 17) : am_okA NA 10 i = true := am_okNA (by decide) h0 h1
theorem ok_11 {i : Int} (h0 : 0 ≤ i) (h1 : i < 4) : am_okA NA 11 i = true := am_okNA (by decide) h0 h1
theorem ok_13 {i : Int} (h0 : 0 ≤ i) (h1 : i < 4) : am_okA NA 13 i = true := am_okNA (by decide) h0 h1
/-- the references that never change once the objects are made -/
def am_St (r : GI) : Prop := (∀ i, 0 ≤ i → i < 10 → r 0 i 2 = i) ∧ (∀ i, 0 ≤ i → i < 17 → r 1 i 0 = i) ∧ (∀ i, 0 ≤ i → i < 8 → r 2 i 0 = 1 + 2 * i ∧ r 2 i 1 = 2 + 2 * i) ∧ (∀ i, 0 ≤ i → i < 4 → r 3 i 2 = i) ∧ (∀ i, 0 ≤ i → i < 8 → r 4 i 0 = 2 + i) ∧ r 5 0 0 = 0 ∧
  (r 7 0 0 = 0 ∧ r 7 0 1 = 0 ∧ r 7 0 2 = 0 ∧ r 7 0 3 = 0 ∧ r 7 0 4 = 0 ∧ r 7 0 5 = 0 ∧ r 7 0 6 = 1 ∧ r 7 0 7 = 0 ∧ r 7 0 8 = 1) ∧ (∀ i, 0 ≤ i → i < 4 → r 16 0 i = i) ∧
  (r 8 0 0 = 0 ∧ r 8 0 1 = 0 ∧ r 8 0 2 = 0 ∧ r 8 0 3 = 0 ∧ r 8 0 6 = 0 ∧ r 8 0 9 = 0 ∧ r 8 0 10 = 0 ∧ r 8 0 11 = 0 ∧ r 8 0 13 = 0 ∧ r 8 0 16 = 0 ∧ r 8 0 17 = 0 ∧ r 8 0 18 = 0 ∧ r 8 0 20 = 0 ∧ r 8 0 21 = 0 ∧ r 8 0 22 = 0 ∧ r 8 0 23 = 0 ∧ r 8 0 24 = 0)
theorem o_getr {k : Nat} {s i t : Int} {z k2 : Nat} (h : am_code m pc = some (.getfield z, 3, s, k, c, d)) (hp : pc + 3 = n) (h9 : Nat.ble (k + 1) 9 = true) (hok : am_okA NA k i = true) (hft : am_ft k s = 2) (htk : am_tk k s = k2) (ht : r k i s = t) (h0 : 0 ≤ t) (kk : Ou m n ls (vR k2 t :: st) g r Q) : Ou m pc ls (vR k i :: st) g r Q := by
  subst hp; subst htk; subst ht
  refine o_step h rfl rfl ?_ kk
  have hc : True ∧ k < 9 ∧ am_okA NA k i = true := ⟨trivial, Nat.le_of_ble_eq_true h9, hok⟩
  simp only [am_step, am_ld, am_cst, am_sto, am_op, am_br, am_hp, am_getf, if_pos hc, if_pos hft, if_pos h0]
theorem o_geti {k : Nat} {s i : Int} {z : Nat} (h : am_code m pc = some (.getfield z, 3, s, k, c, d)) (hp : pc + 3 = n) (h9 : Nat.ble (k + 1) 9 = true) (hok : am_okA NA k i = true) (hft : Nat.beq (am_ft k s) 2 = false) (kk : Ou m n ls (vI (g k i s) :: st) g r Q) : Ou m pc ls (vR k i :: st) g r Q := by
  subst hp
  refine o_step h rfl rfl ?_ kk
  have hc : True ∧ k < 9 ∧ am_okA NA k i = true := ⟨trivial, Nat.le_of_ble_eq_true h9, hok⟩
  have hn : ¬ am_ft k s = 2 := fun z => by rw [z] at hft; cases hft
  simp only [am_step, am_ld, am_cst, am_sto, am_op, am_br, am_hp, am_getf, if_pos hc, if_neg hn]
theorem o_puti {k : Nat} {s i x : Int} {z : Nat} (h : am_code m pc = some (.putfield z, 3, s, k, c, d)) (hp : pc + 3 = n) (h9 : Nat.ble (k + 1) 9 = true) (hok : am_okA NA k i = true) (hft : am_ft k s = 0) (kk : Ou m n ls st (gset g k i s x) r Q) : Ou m pc ls (vI x :: vR k i :: st) g r Q := by
  subst hp
  refine o_step h rfl rfl ?_ kk
  have hc : True ∧ k < 9 ∧ am_okA NA k i = true ∧ (am_ft k s = 0 ∨ (am_ft k s = 1 ∧ (x = 0 ∨ x = 1))) := ⟨trivial, Nat.le_of_ble_eq_true h9, hok, Or.inl hft⟩
  simp only [am_step, am_ld, am_cst, am_sto, am_op, am_br, am_hp, am_putf, if_pos hc]
theorem o_putz {k : Nat} {s i x : Int} {z : Nat} (h : am_code m pc = some (.putfield z, 3, s, k, c, d)) (hp : pc + 3 = n) (h9 : Nat.ble (k + 1) 9 = true) (hok : am_okA NA k i = true) (hft : am_ft k s = 1) (hx : x = 0 ∨ x = 1) (kk : Ou m n ls st (gset g k i s x) r Q) : Ou m pc ls (vI x :: vR k i :: st) g r Q := by
  subst hp
  refine o_step h rfl rfl ?_ kk
  have hc : True ∧ k < 9 ∧ am_okA NA k i = true ∧ (am_ft k s = 0 ∨ (am_ft k s = 1 ∧ (x = 0 ∨ x = 1))) := ⟨trivial, Nat.le_of_ble_eq_true h9, hok, Or.inr ⟨hft, hx⟩⟩
  simp only [am_step, am_ld, am_cst, am_sto, am_op, am_br, am_hp, am_putf, if_pos hc]
theorem o_putr {k : Nat} {s i i2 : Int} {z k2 : Nat} (h : am_code m pc = some (.putfield z, 3, s, k, c, d)) (hp : pc + 3 = n) (h9 : Nat.ble (k + 1) 9 = true) (hok : am_okA NA k i = true) (hft : am_ft k s = 2) (htk : am_tk k s = k2) (hok2 : am_okA NA k2 i2 = true) (kk : Ou m n ls st g (gset r k i s i2) Q) : Ou m pc ls (vR k2 i2 :: vR k i :: st) g r Q := by
  subst hp
  refine o_step h rfl rfl ?_ kk
  have hc : True ∧ k < 9 ∧ am_okA NA k i = true ∧ am_ft k s = 2 ∧ am_tk k s = k2 ∧ am_okA NA k2 i2 = true := ⟨trivial, Nat.le_of_ble_eq_true h9, hok, hft, htk, hok2⟩
  simp only [am_step, am_ld, am_cst, am_sto, am_op, am_br, am_hp, am_putf, if_pos hc]
theorem am_okSof {N k : Nat} {i : Int} (h : am_okA N k i = true) : am_okS N k i = true := by unfold am_okS; rw [h]; rfl
theorem o_iald {k : Nat} {i j L : Int} (h : am_code m pc = some (.iaload, 1, a, b, c, d)) (hp : pc + 1 = n) (hok : am_okA NA k i = true) (hak : am_ak k = 1) (hL : am_al k i = L) (h0 : 0 ≤ j) (h1 : j < L) (kk : Ou m n ls (vI (g k i j) :: st) g r Q) : Ou m pc ls (vI j :: vR k i :: st) g r Q := by
  subst hp
  refine o_step h rfl rfl ?_ kk
  have hc : am_okS NA k i = true ∧ am_ak k = 1 ∧ 0 ≤ j ∧ j < am_len g k i := ⟨am_okSof hok, hak, h0, by unfold am_len; rw [if_neg (by have := (am_okAeq hok).1; omega), hL]; exact h1⟩
  simp only [am_step, am_ld, am_cst, am_sto, am_op, am_br, am_hp, am_ald, if_pos hc, if_true]
theorem o_lald {k : Nat} {i j L : Int} (h : am_code m pc = some (.laload, 1, a, b, c, d)) (hp : pc + 1 = n) (hok : am_okA NA k i = true) (hak : am_ak k = 2) (hL : am_al k i = L) (h0 : 0 ≤ j) (h1 : j < L) (kk : Ou m n ls (vL (g k i j) :: st) g r Q) : Ou m pc ls (vI j :: vR k i :: st) g r Q := by
  subst hp
  refine o_step h rfl rfl ?_ kk
  have hc : am_okS NA k i = true ∧ am_ak k = 2 ∧ 0 ≤ j ∧ j < am_len g k i := ⟨am_okSof hok, hak, h0, by unfold am_len; rw [if_neg (by have := (am_okAeq hok).1; omega), hL]; exact h1⟩
  simp only [am_step, am_ld, am_cst, am_sto, am_op, am_br, am_hp, am_ald, if_pos hc]
  rfl
theorem o_sald {j : Int} (h : am_code m pc = some (.iaload, 1, a, b, c, d)) (hp : pc + 1 = n) (h0 : 0 ≤ j) (h1 : j < g 35 0 0) (kk : Ou m n ls (vI (g 34 0 j) :: st) g r Q) : Ou m pc ls (vI j :: vR 34 0 :: st) g r Q := by
  subst hp
  refine o_step h rfl rfl ?_ kk
  have hc : am_okS NA 34 0 = true ∧ am_ak 34 = 1 ∧ 0 ≤ j ∧ j < am_len g 34 0 := ⟨rfl, rfl, h0, h1⟩
  simp only [am_step, am_ld, am_cst, am_sto, am_op, am_br, am_hp, am_ald, if_pos hc, if_true]
theorem o_salen (h : am_code m pc = some (.arraylength, 1, a, b, c, d)) (hp : pc + 1 = n) (kk : Ou m n ls (vI (g 35 0 0) :: st) g r Q) : Ou m pc ls (vR 34 0 :: st) g r Q := by
  subst hp
  refine o_step h rfl rfl ?_ kk
  have hc : am_okS NA 34 0 = true ∧ am_ak 34 ≠ 0 := ⟨rfl, by decide⟩
  simp only [am_step, am_ld, am_cst, am_sto, am_op, am_br, am_hp, am_aln, if_pos hc]
  rfl
theorem o_alen {k : Nat} {i L : Int} (h : am_code m pc = some (.arraylength, 1, a, b, c, d)) (hp : pc + 1 = n) (hok : am_okA NA k i = true) (hak : Nat.beq (am_ak k) 0 = false) (hL : am_al k i = L) (kk : Ou m n ls (vI L :: st) g r Q) : Ou m pc ls (vR k i :: st) g r Q := by
  subst hp; subst hL
  refine o_step h rfl rfl ?_ kk
  have hc : am_okS NA k i = true ∧ am_ak k ≠ 0 := ⟨am_okSof hok, fun z => by rw [z] at hak; cases hak⟩
  have hl : am_len g k i = am_al k i := by unfold am_len; rw [if_neg (by have := (am_okAeq hok).1; omega)]
  simp only [am_step, am_ld, am_cst, am_sto, am_op, am_br, am_hp, am_aln, if_pos hc, hl]
theorem o_rald {k k2 : Nat} {i j L t : Int} (h : am_code m pc = some (.aaload, 1, a, b, c, d)) (hp : pc + 1 = n) (hok : am_okA NA k i = true) (hak : am_ak k = 3) (hL : am_al k i = L) (htk : am_tk k 0 = k2) (h0 : 0 ≤ j) (h1 : j < L) (ht : r k i j = t) (h2 : 0 ≤ t) (kk : Ou m n ls (vR k2 t :: st) g r Q) : Ou m pc ls (vI j :: vR k i :: st) g r Q := by
  subst hp; subst htk; subst ht; subst hL
  refine o_step h rfl rfl ?_ kk
  have hc : am_okA NA k i = true ∧ am_ak k = 3 ∧ 0 ≤ j ∧ j < am_al k i ∧ 0 ≤ r k i j := ⟨hok, hak, h0, h1, h2⟩
  simp only [am_step, am_ld, am_cst, am_sto, am_op, am_br, am_hp, am_rld, if_pos hc]
theorem o_iast {k : Nat} {i j x L : Int} (h : am_code m pc = some (.iastore, 1, a, b, c, d)) (hp : pc + 1 = n) (hok : am_okA NA k i = true) (hak : am_ak k = 1) (hL : am_al k i = L) (h0 : 0 ≤ j) (h1 : j < L) (kk : Ou m n ls st (gset g k i j x) r Q) : Ou m pc ls (vI x :: vI j :: vR k i :: st) g r Q := by
  subst hp; subst hL
  refine o_step h rfl rfl ?_ kk
  have hc : am_okA NA k i = true ∧ am_ak k = 1 ∧ 0 ≤ j ∧ j < am_al k i := ⟨hok, hak, h0, h1⟩
  simp only [am_step, am_ld, am_cst, am_sto, am_op, am_br, am_hp, am_ast, if_pos hc]
theorem o_last {k : Nat} {i j x L : Int} (h : am_code m pc = some (.lastore, 1, a, b, c, d)) (hp : pc + 1 = n) (hok : am_okA NA k i = true) (hak : am_ak k = 2) (hL : am_al k i = L) (h0 : 0 ≤ j) (h1 : j < L) (kk : Ou m n ls st (gset g k i j x) r Q) : Ou m pc ls (vL x :: vI j :: vR k i :: st) g r Q := by
  subst hp; subst hL
  refine o_step h rfl rfl ?_ kk
  have hc : am_okA NA k i = true ∧ am_ak k = 2 ∧ 0 ≤ j ∧ j < am_al k i ∧ NA ≤ NA := ⟨hok, hak, h0, h1, Nat.le_refl _⟩
  simp only [am_step, am_ld, am_cst, am_sto, am_op, am_br, am_hp, am_lst, if_pos hc]
theorem o_rast {k k2 : Nat} {i j i2 L : Int} (h : am_code m pc = some (.aastore, 1, a, b, c, d)) (hp : pc + 1 = n) (hok : am_okA NA k i = true) (hak : am_ak k = 3) (hL : am_al k i = L) (htk : am_tk k 0 = k2) (h0 : 0 ≤ j) (h1 : j < L) (hok2 : am_okA NA k2 i2 = true) (kk : Ou m n ls st g (gset r k i j i2) Q) : Ou m pc ls (vR k2 i2 :: vI j :: vR k i :: st) g r Q := by
  subst hp; subst hL
  refine o_step h rfl rfl ?_ kk
  have hc : am_okA NA k i = true ∧ am_ak k = 3 ∧ 0 ≤ j ∧ j < am_al k i ∧ am_tk k 0 = k2 ∧ am_okA NA k2 i2 = true := ⟨hok, hak, h0, h1, htk, hok2⟩
  simp only [am_step, am_ld, am_cst, am_sto, am_op, am_br, am_hp, am_rst, if_pos hc]
theorem o_acopy {k1 k2 : Nat} {i1 i2 p1 p2 q L1 L2 : Int} {z : Nat} (h : am_code m pc = some (.invokestatic z, 3, a, b, c, 5)) (hp : pc + 3 = n) (hok1 : am_okA NA k1 i1 = true) (hok2 : am_okA NA k2 i2 = true) (hak1 : am_ak k1 = 1) (hak2 : am_ak k2 = 1) (hL1 : am_al k1 i1 = L1) (hL2 : am_al k2 i2 = L2) (h0 : 0 ≤ q) (h1 : 0 ≤ p1) (h2 : 0 ≤ p2) (h3 : p1 + q ≤ L1) (h4 : p2 + q ≤ L2) (hw : Nat.ble (am_wd st) 8 = true) (kk : Ou m n ls st (gcpy g k1 i1 p1 k2 i2 p2 q) r Q) : Ou m pc ls (vI q :: vI p2 :: vR k2 i2 :: vI p1 :: vR k1 i1 :: st) g r Q := by
  subst hp; subst hL1; subst hL2
  refine o_step h rfl rfl ?_ kk
  have hc : am_okA NA k1 i1 = true ∧ am_okA NA k2 i2 = true ∧ am_ak k1 = 1 ∧ am_ak k2 = 1 ∧ 0 ≤ q ∧ 0 ≤ p1 ∧ 0 ≤ p2 ∧ p1 + q ≤ am_al k1 i1 ∧ p2 + q ≤ am_al k2 i2 ∧ am_wd st ≤ 8 ∧ NA ≤ NA := ⟨hok1, hok2, hak1, hak2, h0, h1, h2, h3, h4, Nat.le_of_ble_eq_true hw, Nat.le_refl _⟩
  simp only [am_step, am_ld, am_cst, am_sto, am_op, am_br, am_hp, am_acp, if_pos hc, if_true]
theorem o_max {x y : Int} {z : Nat} (h : am_code m pc = some (.invokestatic z, 3, a, b, c, 6)) (hp : pc + 3 = n) (hw : Nat.ble (am_wd st) 8 = true) (kk : Ou m n ls (vI (if x < y then y else x) :: st) g r Q) : Ou m pc ls (vI y :: vI x :: st) g r Q := by
  subst hp
  refine o_step h rfl rfl ?_ kk
  simp only [am_step, am_ld, am_cst, am_sto, am_op, am_br, am_hp, am_mx, if_pos (Nat.le_of_ble_eq_true hw)]
  rfl
theorem o_min {x y : Int} {z : Nat} (h : am_code m pc = some (.invokestatic z, 3, a, b, c, 7)) (hp : pc + 3 = n) (hw : Nat.ble (am_wd st) 8 = true) (kk : Ou m n ls (vI (if y < x then y else x) :: st) g r Q) : Ou m pc ls (vI y :: vI x :: st) g r Q := by
  subst hp
  refine o_step h rfl rfl ?_ kk
  simp only [am_step, am_ld, am_cst, am_sto, am_op, am_br, am_hp, am_mn, if_pos (Nat.le_of_ble_eq_true hw)]
  rfl
theorem o_iret {x : Int} (h : am_code m pc = some (.ireturn, 1, a, b, c, d)) (hr : am_rt m = some .int) (q : Q (some (vI x)) g r) : Ou m pc ls [vI x] g r Q := by
  refine o_ret h ?_ q
  show (if _ then _ else _) = _
  rw [if_pos (Or.inl hr)]
theorem o_zret {x : Int} (h : am_code m pc = some (.ireturn, 1, a, b, c, d)) (hr : am_rt m = some .boolean) (hx : x = 0 ∨ x = 1) (q : Q (some (vI x)) g r) : Ou m pc ls [vI x] g r Q := by
  refine o_ret h ?_ q
  show (if _ then _ else _) = _
  rw [if_pos (Or.inr ⟨hr, hx⟩)]
theorem o_lret {x : Int} (h : am_code m pc = some (.lreturn, 1, a, b, c, d)) (q : Q (some (vL x)) g r) : Ou m pc ls [vL x] g r Q := o_ret h rfl q
theorem o_aret {k : Nat} {i : Int} (h : am_code m pc = some (.areturn, 1, a, b, c, d)) (q : Q (some (vR k i)) g r) : Ou m pc ls [vR k i] g r Q := o_ret h rfl q
theorem o_vret (h : am_code m pc = some (.return_, 1, a, b, c, d)) (q : Q none g r) : Ou m pc ls [] g r Q := o_ret h rfl q
theorem am_calof {ins : Instr} {as rest : List AV} (hC : am_isC ins = true) (hd : Nat.ble d 3 = true) (hpop : am_pop c [] st = some (as, rest)) (hw : Nat.ble (am_wd rest) 8 = true) (he : Nat.ble (am_exp as).length (am_ml b) = true) (hn : as.all (fun v => !am_isN v) = true) (ht : d = 1 ∨ am_thi NA b as = true) : am_cal ins b c d NA st = some (as, rest) := by
  unfold am_cal
  rw [if_pos ⟨hC, Nat.le_of_ble_eq_true hd⟩, hpop]
  dsimp only
  rw [if_pos ⟨Nat.le_of_ble_eq_true hw, Nat.le_of_ble_eq_true he, hn, ht⟩]
theorem am_nret {ins : Instr} (hC : am_isC ins = true) : am_ret ins (am_rt m) st = none := by
  unfold am_isC at hC
  split at hC <;> first | rfl | cases hC
/-- a call of an object's method that answers -/
theorem o_invi {ins : Instr} {k : Nat} {i : Int} {as rest : List AV} {x : AV} {g' r' : GI} (h : am_code m pc = some (ins, 3, a, b, c, d)) (hC : am_isC ins = true) (hd : Nat.ble d 3 = true) (hp : pc + 3 = n) (hpop : am_pop c [] st = some (vR k i :: as, rest)) (hw : Nat.ble (am_wd rest) 8 = true) (he : Nat.ble (am_exp (vR k i :: as)).length (am_ml b) = true) (hn : (vR k i :: as).all (fun v => !am_isN v) = true) (hoc : Nat.beq k (am_oc b) = true) (hok : am_okA NA k i = true) (hb : Rt b (vR k i :: as) g r (some x) g' r') (kk : Ou m n ls (x :: rest) g' r' Q) : Ou m pc ls st g r Q := by
  subst hp
  refine o_call h (am_nret hC) (am_calof hC hd hpop hw he hn (Or.inr ?_)) hb kk
  unfold am_thi
  dsimp only
  rw [hoc, hok]
  rfl
theorem o_invv {ins : Instr} {k : Nat} {i : Int} {as rest : List AV} {g' r' : GI} (h : am_code m pc = some (ins, 3, a, b, c, d)) (hC : am_isC ins = true) (hd : Nat.ble d 3 = true) (hp : pc + 3 = n) (hpop : am_pop c [] st = some (vR k i :: as, rest)) (hw : Nat.ble (am_wd rest) 8 = true) (he : Nat.ble (am_exp (vR k i :: as)).length (am_ml b) = true) (hn : (vR k i :: as).all (fun v => !am_isN v) = true) (hoc : Nat.beq k (am_oc b) = true) (hok : am_okA NA k i = true) (hb : Rt b (vR k i :: as) g r none g' r') (kk : Ou m n ls rest g' r' Q) : Ou m pc ls st g r Q := by
  subst hp
  refine o_call h (am_nret hC) (am_calof hC hd hpop hw he hn (Or.inr ?_)) hb kk
  unfold am_thi
  dsimp only
  rw [hoc, hok]
  rfl
/-- of a static method -/
theorem o_invsi {z : Nat} {as rest : List AV} {x : AV} {g' r' : GI} (h : am_code m pc = some (.invokestatic z, 3, a, b, c, 1)) (hp : pc + 3 = n) (hpop : am_pop c [] st = some (as, rest)) (hw : Nat.ble (am_wd rest) 8 = true) (he : Nat.ble (am_exp as).length (am_ml b) = true) (hn : as.all (fun v => !am_isN v) = true) (hb : Rt b as g r (some x) g' r') (kk : Ou m n ls (x :: rest) g' r' Q) : Ou m pc ls st g r Q := by
  subst hp
  exact o_call h rfl (am_calof rfl rfl hpop hw he hn (Or.inl rfl)) hb kk
theorem o_invsv {z : Nat} {as rest : List AV} {g' r' : GI} (h : am_code m pc = some (.invokestatic z, 3, a, b, c, 1)) (hp : pc + 3 = n) (hpop : am_pop c [] st = some (as, rest)) (hw : Nat.ble (am_wd rest) 8 = true) (he : Nat.ble (am_exp as).length (am_ml b) = true) (hn : as.all (fun v => !am_isN v) = true) (hb : Rt b as g r none g' r') (kk : Ou m n ls rest g' r' Q) : Ou m pc ls st g r Q := by
  subst hp
  exact o_call h rfl (am_calof rfl rfl hpop hw he hn (Or.inl rfl)) hb kk
theorem of_0_2 {i : Int} {z : Nat} (hS : am_St r) (h : am_code m pc = some (.getfield z, 3, 2, 0, c, d)) (hp : pc + 3 = n) (h0 : 0 ≤ i) (h1 : i < 10) (kk : Ou m n ls (vR 9 (i) :: st) g r Q) : Ou m pc ls (vR 0 i :: st) g r Q := o_getr h hp rfl (ok_0 h0 h1) rfl rfl ((hS.1 i h0 h1)) (by omega) kk
theorem of_1_0 {i : Int} {z : Nat} (hS : am_St r) (h : am_code m pc = some (.getfield z, 3, 0, 1, c, d)) (hp : pc + 3 = n) (h0 : 0 ≤ i) (h1 : i < 17) (kk : Ou m n ls (vR 10 (i) :: st) g r Q) : Ou m pc ls (vR 1 i :: st) g r Q := o_getr h hp rfl (ok_1 h0 h1) rfl rfl ((hS.2.1 i h0 h1)) (by omega) kk
theorem of_2_0 {i : Int} {z : Nat} (hS : am_St r) (h : am_code m pc = some (.getfield z, 3, 0, 2, c, d)) (hp : pc + 3 = n) (h0 : 0 ≤ i) (h1 : i < 8) (kk : Ou m n ls (vR 1 (1 + 2 * i) :: st) g r Q) : Ou m pc ls (vR 2 i :: st) g r Q := o_getr h hp rfl (ok_2 h0 h1) rfl rfl ((hS.2.2.1 i h0 h1).1) (by omega) kk
theorem of_2_1 {i : Int} {z : Nat} (hS : am_St r) (h : am_code m pc = some (.getfield z, 3, 1, 2, c, d)) (hp : pc + 3 = n) (h0 : 0 ≤ i) (h1 : i < 8) (kk : Ou m n ls (vR 1 (2 + 2 * i) :: st) g r Q) : Ou m pc ls (vR 2 i :: st) g r Q := o_getr h hp rfl (ok_2 h0 h1) rfl rfl ((hS.2.2.1 i h0 h1).2) (by omega) kk
theorem of_3_2 {i : Int} {z : Nat} (hS : am_St r) (h : am_code m pc = some (.getfield z, 3, 2, 3, c, d)) (hp : pc + 3 = n) (h0 : 0 ≤ i) (h1 : i < 4) (kk : Ou m n ls (vR 11 (i) :: st) g r Q) : Ou m pc ls (vR 3 i :: st) g r Q := o_getr h hp rfl (ok_3 h0 h1) rfl rfl ((hS.2.2.2.1 i h0 h1)) (by omega) kk
theorem of_4_0 {i : Int} {z : Nat} (hS : am_St r) (h : am_code m pc = some (.getfield z, 3, 0, 4, c, d)) (hp : pc + 3 = n) (h0 : 0 ≤ i) (h1 : i < 8) (kk : Ou m n ls (vR 0 (2 + i) :: st) g r Q) : Ou m pc ls (vR 4 i :: st) g r Q := o_getr h hp rfl (ok_4 h0 h1) rfl rfl ((hS.2.2.2.2.1 i h0 h1)) (by omega) kk
theorem of_5_0 {z : Nat} (hS : am_St r) (h : am_code m pc = some (.getfield z, 3, 0, 5, c, d)) (hp : pc + 3 = n) (kk : Ou m n ls (vR 12 0 :: st) g r Q) : Ou m pc ls (vR 5 0 :: st) g r Q := o_getr h hp rfl rfl rfl rfl hS.2.2.2.2.2.1 (by omega) kk
theorem of_7_0 {z : Nat} (hS : am_St r) (h : am_code m pc = some (.getfield z, 3, 0, 7, c, d)) (hp : pc + 3 = n) (kk : Ou m n ls (vR 5 0 :: st) g r Q) : Ou m pc ls (vR 7 0 :: st) g r Q := o_getr h hp rfl rfl rfl rfl hS.2.2.2.2.2.2.1.1 (by omega) kk
theorem of_7_1 {z : Nat} (hS : am_St r) (h : am_code m pc = some (.getfield z, 3, 1, 7, c, d)) (hp : pc + 3 = n) (kk : Ou m n ls (vR 1 0 :: st) g r Q) : Ou m pc ls (vR 7 0 :: st) g r Q := o_getr h hp rfl rfl rfl rfl hS.2.2.2.2.2.2.1.2.1 (by omega) kk
theorem of_7_2 {z : Nat} (hS : am_St r) (h : am_code m pc = some (.getfield z, 3, 2, 7, c, d)) (hp : pc + 3 = n) (kk : Ou m n ls (vR 14 0 :: st) g r Q) : Ou m pc ls (vR 7 0 :: st) g r Q := o_getr h hp rfl rfl rfl rfl hS.2.2.2.2.2.2.1.2.2.1 (by omega) kk
theorem of_7_3 {z : Nat} (hS : am_St r) (h : am_code m pc = some (.getfield z, 3, 3, 7, c, d)) (hp : pc + 3 = n) (kk : Ou m n ls (vR 15 0 :: st) g r Q) : Ou m pc ls (vR 7 0 :: st) g r Q := o_getr h hp rfl rfl rfl rfl hS.2.2.2.2.2.2.1.2.2.2.1 (by omega) kk
theorem of_7_4 {z : Nat} (hS : am_St r) (h : am_code m pc = some (.getfield z, 3, 4, 7, c, d)) (hp : pc + 3 = n) (kk : Ou m n ls (vR 16 0 :: st) g r Q) : Ou m pc ls (vR 7 0 :: st) g r Q := o_getr h hp rfl rfl rfl rfl hS.2.2.2.2.2.2.1.2.2.2.2.1 (by omega) kk
theorem of_7_5 {z : Nat} (hS : am_St r) (h : am_code m pc = some (.getfield z, 3, 5, 7, c, d)) (hp : pc + 3 = n) (kk : Ou m n ls (vR 0 0 :: st) g r Q) : Ou m pc ls (vR 7 0 :: st) g r Q := o_getr h hp rfl rfl rfl rfl hS.2.2.2.2.2.2.1.2.2.2.2.2.1 (by omega) kk
theorem of_7_6 {z : Nat} (hS : am_St r) (h : am_code m pc = some (.getfield z, 3, 6, 7, c, d)) (hp : pc + 3 = n) (kk : Ou m n ls (vR 0 1 :: st) g r Q) : Ou m pc ls (vR 7 0 :: st) g r Q := o_getr h hp rfl rfl rfl rfl hS.2.2.2.2.2.2.1.2.2.2.2.2.2.1 (by omega) kk
theorem of_7_7 {z : Nat} (hS : am_St r) (h : am_code m pc = some (.getfield z, 3, 7, 7, c, d)) (hp : pc + 3 = n) (kk : Ou m n ls (vR 6 0 :: st) g r Q) : Ou m pc ls (vR 7 0 :: st) g r Q := o_getr h hp rfl rfl rfl rfl hS.2.2.2.2.2.2.1.2.2.2.2.2.2.2.1 (by omega) kk
theorem of_7_8 {z : Nat} (hS : am_St r) (h : am_code m pc = some (.getfield z, 3, 8, 7, c, d)) (hp : pc + 3 = n) (kk : Ou m n ls (vR 6 1 :: st) g r Q) : Ou m pc ls (vR 7 0 :: st) g r Q := o_getr h hp rfl rfl rfl rfl hS.2.2.2.2.2.2.1.2.2.2.2.2.2.2.2 (by omega) kk
theorem of_8_0 {z : Nat} (hS : am_St r) (h : am_code m pc = some (.getfield z, 3, 0, 8, c, d)) (hp : pc + 3 = n) (kk : Ou m n ls (vR 17 0 :: st) g r Q) : Ou m pc ls (vR 8 0 :: st) g r Q := o_getr h hp rfl rfl rfl rfl hS.2.2.2.2.2.2.2.2.1 (by omega) kk
theorem of_8_1 {z : Nat} (hS : am_St r) (h : am_code m pc = some (.getfield z, 3, 1, 8, c, d)) (hp : pc + 3 = n) (kk : Ou m n ls (vR 18 0 :: st) g r Q) : Ou m pc ls (vR 8 0 :: st) g r Q := o_getr h hp rfl rfl rfl rfl hS.2.2.2.2.2.2.2.2.2.1 (by omega) kk
theorem of_8_2 {z : Nat} (hS : am_St r) (h : am_code m pc = some (.getfield z, 3, 2, 8, c, d)) (hp : pc + 3 = n) (kk : Ou m n ls (vR 19 0 :: st) g r Q) : Ou m pc ls (vR 8 0 :: st) g r Q := o_getr h hp rfl rfl rfl rfl hS.2.2.2.2.2.2.2.2.2.2.1 (by omega) kk
theorem of_8_3 {z : Nat} (hS : am_St r) (h : am_code m pc = some (.getfield z, 3, 3, 8, c, d)) (hp : pc + 3 = n) (kk : Ou m n ls (vR 20 0 :: st) g r Q) : Ou m pc ls (vR 8 0 :: st) g r Q := o_getr h hp rfl rfl rfl rfl hS.2.2.2.2.2.2.2.2.2.2.2.1 (by omega) kk
theorem of_8_6 {z : Nat} (hS : am_St r) (h : am_code m pc = some (.getfield z, 3, 6, 8, c, d)) (hp : pc + 3 = n) (kk : Ou m n ls (vR 21 0 :: st) g r Q) : Ou m pc ls (vR 8 0 :: st) g r Q := o_getr h hp rfl rfl rfl rfl hS.2.2.2.2.2.2.2.2.2.2.2.2.1 (by omega) kk
theorem of_8_9 {z : Nat} (hS : am_St r) (h : am_code m pc = some (.getfield z, 3, 9, 8, c, d)) (hp : pc + 3 = n) (kk : Ou m n ls (vR 22 0 :: st) g r Q) : Ou m pc ls (vR 8 0 :: st) g r Q := o_getr h hp rfl rfl rfl rfl hS.2.2.2.2.2.2.2.2.2.2.2.2.2.1 (by omega) kk
theorem of_8_10 {z : Nat} (hS : am_St r) (h : am_code m pc = some (.getfield z, 3, 10, 8, c, d)) (hp : pc + 3 = n) (kk : Ou m n ls (vR 23 0 :: st) g r Q) : Ou m pc ls (vR 8 0 :: st) g r Q := o_getr h hp rfl rfl rfl rfl hS.2.2.2.2.2.2.2.2.2.2.2.2.2.2.1 (by omega) kk
theorem of_8_11 {z : Nat} (hS : am_St r) (h : am_code m pc = some (.getfield z, 3, 11, 8, c, d)) (hp : pc + 3 = n) (kk : Ou m n ls (vR 24 0 :: st) g r Q) : Ou m pc ls (vR 8 0 :: st) g r Q := o_getr h hp rfl rfl rfl rfl hS.2.2.2.2.2.2.2.2.2.2.2.2.2.2.2.1 (by omega) kk
theorem of_8_13 {z : Nat} (hS : am_St r) (h : am_code m pc = some (.getfield z, 3, 13, 8, c, d)) (hp : pc + 3 = n) (kk : Ou m n ls (vR 25 0 :: st) g r Q) : Ou m pc ls (vR 8 0 :: st) g r Q := o_getr h hp rfl rfl rfl rfl hS.2.2.2.2.2.2.2.2.2.2.2.2.2.2.2.2.1 (by omega) kk
theorem of_8_16 {z : Nat} (hS : am_St r) (h : am_code m pc = some (.getfield z, 3, 16, 8, c, d)) (hp : pc + 3 = n) (kk : Ou m n ls (vR 26 0 :: st) g r Q) : Ou m pc ls (vR 8 0 :: st) g r Q := o_getr h hp rfl rfl rfl rfl hS.2.2.2.2.2.2.2.2.2.2.2.2.2.2.2.2.2.1 (by omega) kk
theorem of_8_17 {z : Nat} (hS : am_St r) (h : am_code m pc = some (.getfield z, 3, 17, 8, c, d)) (hp : pc + 3 = n) (kk : Ou m n ls (vR 27 0 :: st) g r Q) : Ou m pc ls (vR 8 0 :: st) g r Q := o_getr h hp rfl rfl rfl rfl hS.2.2.2.2.2.2.2.2.2.2.2.2.2.2.2.2.2.2.1 (by omega) kk
theorem of_8_18 {z : Nat} (hS : am_St r) (h : am_code m pc = some (.getfield z, 3, 18, 8, c, d)) (hp : pc + 3 = n) (kk : Ou m n ls (vR 28 0 :: st) g r Q) : Ou m pc ls (vR 8 0 :: st) g r Q := o_getr h hp rfl rfl rfl rfl hS.2.2.2.2.2.2.2.2.2.2.2.2.2.2.2.2.2.2.2.1 (by omega) kk
theorem of_8_20 {z : Nat} (hS : am_St r) (h : am_code m pc = some (.getfield z, 3, 20, 8, c, d)) (hp : pc + 3 = n) (kk : Ou m n ls (vR 29 0 :: st) g r Q) : Ou m pc ls (vR 8 0 :: st) g r Q := o_getr h hp rfl rfl rfl rfl hS.2.2.2.2.2.2.2.2.2.2.2.2.2.2.2.2.2.2.2.2.1 (by omega) kk
theorem of_8_21 {z : Nat} (hS : am_St r) (h : am_code m pc = some (.getfield z, 3, 21, 8, c, d)) (hp : pc + 3 = n) (kk : Ou m n ls (vR 30 0 :: st) g r Q) : Ou m pc ls (vR 8 0 :: st) g r Q := o_getr h hp rfl rfl rfl rfl hS.2.2.2.2.2.2.2.2.2.2.2.2.2.2.2.2.2.2.2.2.2.1 (by omega) kk
theorem of_8_22 {z : Nat} (hS : am_St r) (h : am_code m pc = some (.getfield z, 3, 22, 8, c, d)) (hp : pc + 3 = n) (kk : Ou m n ls (vR 31 0 :: st) g r Q) : Ou m pc ls (vR 8 0 :: st) g r Q := o_getr h hp rfl rfl rfl rfl hS.2.2.2.2.2.2.2.2.2.2.2.2.2.2.2.2.2.2.2.2.2.2.1 (by omega) kk
theorem of_8_23 {z : Nat} (hS : am_St r) (h : am_code m pc = some (.getfield z, 3, 23, 8, c, d)) (hp : pc + 3 = n) (kk : Ou m n ls (vR 32 0 :: st) g r Q) : Ou m pc ls (vR 8 0 :: st) g r Q := o_getr h hp rfl rfl rfl rfl hS.2.2.2.2.2.2.2.2.2.2.2.2.2.2.2.2.2.2.2.2.2.2.2.1 (by omega) kk
theorem of_8_24 {z : Nat} (hS : am_St r) (h : am_code m pc = some (.getfield z, 3, 24, 8, c, d)) (hp : pc + 3 = n) (kk : Ou m n ls (vR 33 0 :: st) g r Q) : Ou m pc ls (vR 8 0 :: st) g r Q := o_getr h hp rfl rfl rfl rfl hS.2.2.2.2.2.2.2.2.2.2.2.2.2.2.2.2.2.2.2.2.2.2.2.2 (by omega) kk
theorem o_shr {j : Int} (hS : am_St r) (h : am_code m pc = some (.aaload, 1, a, b, c, d)) (hp : pc + 1 = n) (h0 : 0 ≤ j) (h1 : j < 4) (kk : Ou m n ls (vR 3 j :: st) g r Q) : Ou m pc ls (vI j :: vR 16 0 :: st) g r Q := o_rald h hp rfl rfl rfl rfl h0 h1 (hS.2.2.2.2.2.2.2.1 j h0 h1) h0 kk
end OU
