/-! what the abstract machine keeps: its numbers are in range, its cells grow -/
def am_okV : AV → Prop
  | .inl x => inI x
  | .inr (.inl x) => inL x
  | _ => True
def am_okL (l : List AV) : Prop := ∀ v ∈ l, am_okV v
def am_okG (g : GI) : Prop := ∀ k i s, inL (g k i s) ∧ (am_ak k ≠ 2 → inI (g k i s))
theorem am_okL_cons {v : AV} {l : List AV} : am_okL (v :: l) ↔ am_okV v ∧ am_okL l := by
  constructor
  · intro h
    exact ⟨h v List.mem_cons_self, fun w hw => h w (List.mem_cons_of_mem _ hw)⟩
  · rintro ⟨h1, h2⟩ w hw
    rcases List.mem_cons.mp hw with rfl | hw
    · exact h1
    · exact h2 w hw
theorem am_i32 (x : Int32) : inI x.toInt := by
  have h1 := x.toInt_lt
  have h2 := x.le_toInt
  exact ⟨by omega, by omega⟩
theorem am_i64 (x : Int64) : inL x.toInt := by
  have h1 := x.toInt_lt
  have h2 := x.le_toInt
  exact ⟨by omega, by omega⟩
theorem am_inIL {x : Int} (h : inI x) : inL x := ⟨by have := h.1; omega, by have := h.2; omega⟩
theorem am_nthok : ∀ {ls : List AV} (_ : am_okL ls) (k : Nat), am_okV (am_nth ls k)
  | [], _, _ => trivial
  | _ :: _, h, 0 => (am_okL_cons.mp h).1
  | _ :: _, h, k + 1 => am_nthok (am_okL_cons.mp h).2 k
theorem am_setok : ∀ {ls : List AV} (_ : am_okL ls) (k : Nat) {v : AV} (_ : am_okV v), am_okL (am_set ls k v)
  | [], h, _, _, _ => h
  | _ :: _, h, 0, _, hv => am_okL_cons.mpr ⟨hv, (am_okL_cons.mp h).2⟩
  | _ :: _, h, k + 1, _, hv => am_okL_cons.mpr ⟨(am_okL_cons.mp h).1, am_setok (am_okL_cons.mp h).2 k hv⟩
theorem am_setlen : ∀ (ls : List AV) (k : Nat) (v : AV), (am_set ls k v).length = ls.length
  | [], _, _ => rfl
  | _ :: _, 0, _ => rfl
  | _ :: t, k + 1, v => by
    show (am_set t k v).length + 1 = t.length + 1
    rw [am_setlen t k v]
theorem am_gi_eq {v w : AV} (h : am_gi v = some w) : ∃ x, v = .inl x ∧ w = .inl x := by
  unfold am_gi at h
  split at h
  · cases h; exact ⟨_, rfl, rfl⟩
  · cases h
theorem am_gl_eq {v w : AV} (h : am_gl v = some w) : ∃ x, v = .inr (.inl x) ∧ w = .inr (.inl x) := by
  unfold am_gl at h
  split at h
  · cases h; exact ⟨_, rfl, rfl⟩
  · cases h
theorem am_gr_eq {v w : AV} (h : am_gr v = some w) : ∃ q, v = .inr (.inr (.inl q)) ∧ w = .inr (.inr (.inl q)) := by
  unfold am_gr at h
  split at h
  · cases h; exact ⟨_, rfl, rfl⟩
  · cases h
theorem am_ldok {i : Instr} {ls : List AV} {v : AV} (h : am_ld i ls = some v) (hl : am_okL ls) : am_okV v := by
  unfold am_ld at h
  split at h
  · obtain ⟨x, e1, e2⟩ := am_gi_eq h; subst e2; rw [← e1]; exact am_nthok hl _
  · obtain ⟨x, e1, e2⟩ := am_gi_eq h; subst e2; rw [← e1]; exact am_nthok hl _
  · obtain ⟨x, e1, e2⟩ := am_gl_eq h; subst e2; rw [← e1]; exact am_nthok hl _
  · obtain ⟨x, e1, e2⟩ := am_gl_eq h; subst e2; rw [← e1]; exact am_nthok hl _
  · obtain ⟨x, e1, e2⟩ := am_gr_eq h; subst e2; trivial
  · obtain ⟨x, e1, e2⟩ := am_gr_eq h; subst e2; trivial
  · cases h
theorem am_cstok {m pc : Nat} {i : Instr} {a : Int} {b c d : Nat} {v : AV} (hk : am_aux m pc i a b c d = true) (h : am_cst i a = some v) : am_okV v := by
  unfold am_cst at h
  split at h
  · cases h; simp only [am_aux, decide_eq_true_eq] at hk; exact ⟨by omega, by omega⟩
  · cases h; simp only [am_aux, decide_eq_true_eq] at hk; exact ⟨by omega, by omega⟩
  · cases h; simp only [am_aux, decide_eq_true_eq] at hk; exact ⟨by omega, by omega⟩
  · cases h; simp only [am_aux, decide_eq_true_eq] at hk; exact hk.2
  · cases h; simp only [am_aux, decide_eq_true_eq] at hk; exact hk.2
  · rename_i l
    cases h; simp only [am_aux, decide_eq_true_eq] at hk
    have := l.isLt
    exact ⟨by omega, by omega⟩
  · cases h; simp only [am_aux, decide_eq_true_eq] at hk; exact hk.2
  · cases h
theorem am_s1ok {ls : List AV} {k : Nat} {v : AV} {st : List AV} {q : List AV × List AV} (h : am_s1 ls k v st = some q) (hl : am_okL ls) (hs : am_okL st) (hv : am_okV v) : am_okL q.1 ∧ am_okL q.2 ∧ q.1.length = ls.length := by
  unfold am_s1 at h
  split at h
  · cases h; exact ⟨am_setok hl _ hv, hs, am_setlen _ _ _⟩
  · cases h
theorem am_s2ok {ls : List AV} {k : Nat} {v : AV} {st : List AV} {q : List AV × List AV} (h : am_s2 ls k v st = some q) (hl : am_okL ls) (hs : am_okL st) (hv : am_okV v) : am_okL q.1 ∧ am_okL q.2 ∧ q.1.length = ls.length := by
  unfold am_s2 at h
  split at h
  · cases h; exact ⟨am_setok (am_setok hl _ hv) _ trivial, hs, by rw [am_setlen, am_setlen]⟩
  · cases h
theorem am_sIok {ls : List AV} {k : Nat} {st : List AV} {q : List AV × List AV} (h : am_sI ls k st = some q) (hl : am_okL ls) (hs : am_okL st) : am_okL q.1 ∧ am_okL q.2 ∧ q.1.length = ls.length := by
  unfold am_sI at h
  split at h
  · have := am_okL_cons.mp hs; exact am_s1ok h hl this.2 this.1
  · cases h
theorem am_sRok {ls : List AV} {k : Nat} {st : List AV} {q : List AV × List AV} (h : am_sR ls k st = some q) (hl : am_okL ls) (hs : am_okL st) : am_okL q.1 ∧ am_okL q.2 ∧ q.1.length = ls.length := by
  unfold am_sR at h
  split at h
  · have := am_okL_cons.mp hs; exact am_s1ok h hl this.2 this.1
  · cases h
theorem am_sLok {ls : List AV} {k : Nat} {st : List AV} {q : List AV × List AV} (h : am_sL ls k st = some q) (hl : am_okL ls) (hs : am_okL st) : am_okL q.1 ∧ am_okL q.2 ∧ q.1.length = ls.length := by
  unfold am_sL at h
  split at h
  · have := am_okL_cons.mp hs; exact am_s2ok h hl this.2 this.1
  · cases h
theorem am_stook {i : Instr} {ls st : List AV} {q : List AV × List AV} (h : am_sto i ls st = some q) (hl : am_okL ls) (hs : am_okL st) : am_okL q.1 ∧ am_okL q.2 ∧ q.1.length = ls.length := by
  unfold am_sto at h
  split at h
  · exact am_sIok h hl hs
  · exact am_sIok h hl hs
  · exact am_sRok h hl hs
  · exact am_sRok h hl hs
  · exact am_sLok h hl hs
  · exact am_sLok h hl hs
  · unfold am_sN at h
    split at h
    · split at h
      · rename_i hi
        exact am_s1ok h hl hs hi
      · cases h
    · cases h
  · cases h
theorem am_riok {z : Int} {t q : List AV} (h : am_ri z t = some q) (ht : am_okL t) : am_okL q := by
  unfold am_ri at h
  split at h
  · rename_i hz; cases h; exact am_okL_cons.mpr ⟨hz, ht⟩
  · cases h
theorem am_i2eq {f : Int → Int → List AV → Option (List AV)} {st q : List AV} (h : am_i2 f st = some q) : ∃ x y t, st = .inl y :: .inl x :: t ∧ f x y t = some q := by
  unfold am_i2 at h
  split at h
  · exact ⟨_, _, _, rfl, h⟩
  · cases h
theorem am_l2eq {f : Int → Int → List AV → Option (List AV)} {st q : List AV} (h : am_l2 f st = some q) : ∃ x y t, st = .inr (.inl y) :: .inr (.inl x) :: t ∧ f x y t = some q := by
  unfold am_l2 at h
  split at h
  · exact ⟨_, _, _, rfl, h⟩
  · cases h
theorem am_i1eq {f : Int → List AV → Option (List AV)} {st q : List AV} (h : am_i1 f st = some q) : ∃ x t, st = .inl x :: t ∧ f x t = some q := by
  unfold am_i1 at h
  split at h
  · exact ⟨_, _, rfl, h⟩
  · cases h
theorem am_l1eq {f : Int → List AV → Option (List AV)} {st q : List AV} (h : am_l1 f st = some q) : ∃ x t, st = .inr (.inl x) :: t ∧ f x t = some q := by
  unfold am_l1 at h
  split at h
  · exact ⟨_, _, rfl, h⟩
  · cases h
theorem am_v1eq {f : AV → List AV → Option (List AV)} {st q : List AV} (h : am_v1 f st = some q) : ∃ v t, st = v :: t ∧ am_isL v = false ∧ f v t = some q := by
  unfold am_v1 at h
  split at h
  · split at h
    · cases h
    · rename_i hv
      exact ⟨_, _, rfl, by simpa using hv, h⟩
  · cases h
theorem am_opok {i : Instr} {st q : List AV} (h : am_op i st = some q) (hs : am_okL st) : am_okL q := by
  unfold am_op at h
  split at h
  · obtain ⟨x, y, t, rfl, h⟩ := am_i2eq h
    exact am_riok h (am_okL_cons.mp (am_okL_cons.mp hs).2).2
  · obtain ⟨x, y, t, rfl, h⟩ := am_i2eq h
    exact am_riok h (am_okL_cons.mp (am_okL_cons.mp hs).2).2
  · obtain ⟨x, y, t, rfl, h⟩ := am_i2eq h
    exact am_riok h (am_okL_cons.mp (am_okL_cons.mp hs).2).2
  · obtain ⟨x, y, t, rfl, h2⟩ := am_i2eq h
    clear h
    have h := h2
    split at h
    · rename_i hc
      cases h
      have hx : inI x := (am_okL_cons.mp (am_okL_cons.mp hs).2).1
      refine am_okL_cons.mpr ⟨⟨?_, ?_⟩, (am_okL_cons.mp (am_okL_cons.mp hs).2).2⟩
      · have := Int.ediv_nonneg hc.1 (Int.le_of_lt hc.2); omega
      · have := Int.ediv_le_self y hc.1; have := hx.2; omega
    · cases h
  · obtain ⟨x, y, t, rfl, h2⟩ := am_i2eq h
    clear h
    have h := h2
    split at h
    · rename_i hc
      cases h
      have hy : inI y := (am_okL_cons.mp hs).1
      refine am_okL_cons.mpr ⟨⟨?_, ?_⟩, (am_okL_cons.mp (am_okL_cons.mp hs).2).2⟩
      · have := Int.emod_nonneg x (show y ≠ 0 by omega); omega
      · have := Int.emod_lt_of_pos x hc.2; have := hy.2; omega
    · cases h
  iterate 6
    · obtain ⟨x, y, t, rfl, h⟩ := am_i2eq h
      cases h
      exact am_okL_cons.mpr ⟨am_i32 _, (am_okL_cons.mp (am_okL_cons.mp hs).2).2⟩
  iterate 2
    · obtain ⟨x, y, t, rfl, h⟩ := am_l2eq h
      cases h
      exact am_okL_cons.mpr ⟨am_i64 _, (am_okL_cons.mp (am_okL_cons.mp hs).2).2⟩
  · obtain ⟨x, y, t, rfl, h⟩ := am_l2eq h
    cases h
    refine am_okL_cons.mpr ⟨?_, (am_okL_cons.mp (am_okL_cons.mp hs).2).2⟩
    show inI (am_cmp x y)
    unfold am_cmp
    split
    · exact ⟨by omega, by omega⟩
    · split
      · exact ⟨by omega, by omega⟩
      · exact ⟨by omega, by omega⟩
  · obtain ⟨x, t, rfl, h⟩ := am_i1eq h
    cases h
    exact am_okL_cons.mpr ⟨am_inIL (am_okL_cons.mp hs).1, (am_okL_cons.mp hs).2⟩
  · obtain ⟨x, t, rfl, h⟩ := am_l1eq h
    cases h
    exact am_okL_cons.mpr ⟨am_i32 _, (am_okL_cons.mp hs).2⟩
  iterate 2
    · obtain ⟨x, t, rfl, h⟩ := am_i1eq h
      cases h
      exact am_okL_cons.mpr ⟨am_i32 _, (am_okL_cons.mp hs).2⟩
  · obtain ⟨v, t, rfl, -, h⟩ := am_v1eq h
    cases h
    exact am_okL_cons.mpr ⟨(am_okL_cons.mp hs).1, hs⟩
  · obtain ⟨v, t, rfl, -, h⟩ := am_v1eq h
    obtain ⟨w, t, rfl, -, h⟩ := am_v1eq h
    cases h
    exact am_okL_cons.mpr ⟨(am_okL_cons.mp hs).1, am_okL_cons.mpr ⟨(am_okL_cons.mp (am_okL_cons.mp hs).2).1, hs⟩⟩
  · obtain ⟨v, t, rfl, -, h⟩ := am_v1eq h
    cases h
    exact (am_okL_cons.mp hs).2
  · cases h
theorem am_b1eq {f : Int → Nat} {st : List AV} {q : Nat × List AV} (h : am_b1 f st = some q) : ∃ x t, st = .inl x :: t ∧ q = (f x, t) := by
  unfold am_b1 at h
  split at h
  · cases h; exact ⟨_, _, rfl, rfl⟩
  · cases h
theorem am_b2eq {f : Int → Int → Nat} {st : List AV} {q : Nat × List AV} (h : am_b2 f st = some q) : ∃ x y t, st = .inl y :: .inl x :: t ∧ q = (f x y, t) := by
  unfold am_b2 at h
  split at h
  · cases h; exact ⟨_, _, _, rfl, rfl⟩
  · cases h
theorem am_brok {i : Instr} {a : Int} {pc : Nat} {st : List AV} {q : Nat × List AV} (h : am_br i a pc st = some q) (hs : am_okL st) : am_okL q.2 := by
  unfold am_br at h
  split at h
  · cases h; exact hs
  · obtain ⟨x, t, rfl, rfl⟩ := am_b1eq h; exact (am_okL_cons.mp hs).2
  · obtain ⟨x, y, t, rfl, rfl⟩ := am_b2eq h; exact (am_okL_cons.mp (am_okL_cons.mp hs).2).2
  · obtain ⟨x, t, rfl, rfl⟩ := am_b1eq h; exact (am_okL_cons.mp hs).2
  · obtain ⟨x, t, rfl, rfl⟩ := am_b1eq h; exact (am_okL_cons.mp hs).2
  · cases h
theorem am_gsetok {g : GI} (hg : am_okG g) {k : Nat} {i s v : Int} (h1 : inL v) (h2 : am_ak k ≠ 2 → inI v) : am_okG (gset g k i s v) := by
  intro k' i' s'
  unfold gset
  split
  · rename_i h; rw [h.1]; exact ⟨h1, h2⟩
  · exact hg k' i' s'
theorem am_gfilok {g : GI} (hg : am_okG g) {k : Nat} {i : Int} : am_okG (gfil g k i 0) := by
  intro k' i' s'
  unfold gfil
  split
  · exact ⟨⟨by omega, by omega⟩, fun _ => ⟨by omega, by omega⟩⟩
  · exact hg k' i' s'
theorem am_akob : ∀ k, k < 9 → am_ak k = 0 := by decide +kernel
theorem am_len_ok {g : GI} (hg : am_okG g) (k : Nat) (i : Int) : inI (am_len g k i) := by
  unfold am_len
  split
  · exact (hg 35 0 0).2 (by decide)
  · unfold am_al
    repeat' (first | (rw [inI]; constructor <;> (split <;> omega)) | (rw [inI]; constructor <;> omega) | (cases Nat.ble _ _ <;> simp only [cond_true, cond_false]))
theorem am_gcpyok {g : GI} (hg : am_okG g) {k1 : Nat} {i1 p1 : Int} {k2 : Nat} {i2 p2 n : Int} (h : am_ak k1 = 1) : am_okG (gcpy g k1 i1 p1 k2 i2 p2 n) := by
  intro k' i' s'
  unfold gcpy
  split
  · exact ⟨(hg _ _ _).1, fun _ => (hg _ _ _).2 (by rw [h]; decide)⟩
  · exact hg k' i' s'
theorem am_hpok {i : Instr} {a : Int} {b d : Nat} {g r : GI} {N : Nat} {st : List AV} {q : List AV × GI × GI} (h : am_hp i a b d g r N st = some q) (hs : am_okL st) (hg : am_okG g) : am_okL q.1 ∧ am_okG q.2.1 := by
  unfold am_hp at h
  split at h
  · unfold am_getf at h
    split at h
    · split at h
      · rename_i hc
        split at h
        · split at h
          · cases h; exact ⟨am_okL_cons.mpr ⟨trivial, (am_okL_cons.mp hs).2⟩, hg⟩
          · cases h
        · cases h; exact ⟨am_okL_cons.mpr ⟨(hg _ _ _).2 (by rw [am_akob _ hc.2.1]; decide), (am_okL_cons.mp hs).2⟩, hg⟩
      · cases h
    · cases h
  · unfold am_putf at h
    split at h
    · split at h
      · rename_i hc
        cases h
        have hx := (am_okL_cons.mp hs).1
        exact ⟨(am_okL_cons.mp (am_okL_cons.mp hs).2).2, am_gsetok hg (am_inIL hx) (fun _ => hx)⟩
      · cases h
    · split at h
      · cases h; exact ⟨(am_okL_cons.mp (am_okL_cons.mp hs).2).2, hg⟩
      · cases h
    · cases h
  · unfold am_ald at h
    split at h
    · split at h
      · rename_i hc
        cases h
        refine ⟨am_okL_cons.mpr ⟨?_, (am_okL_cons.mp (am_okL_cons.mp hs).2).2⟩, hg⟩
        exact (hg _ _ _).2 (by rw [hc.2.1]; decide)
      · cases h
    · cases h
  · unfold am_ald at h
    split at h
    · split at h
      · rename_i hc
        cases h
        refine ⟨am_okL_cons.mpr ⟨?_, (am_okL_cons.mp (am_okL_cons.mp hs).2).2⟩, hg⟩
        exact (hg _ _ _).1
      · cases h
    · cases h
  · unfold am_rld at h
    split at h
    · split at h
      · cases h; exact ⟨am_okL_cons.mpr ⟨trivial, (am_okL_cons.mp (am_okL_cons.mp hs).2).2⟩, hg⟩
      · cases h
    · cases h
  · unfold am_ast at h
    split at h
    · split at h
      · cases h
        have hx := (am_okL_cons.mp hs).1
        exact ⟨(am_okL_cons.mp (am_okL_cons.mp (am_okL_cons.mp hs).2).2).2, am_gsetok hg (am_inIL hx) (fun _ => hx)⟩
      · cases h
    · cases h
  · unfold am_lst at h
    split at h
    · split at h
      · rename_i hc
        cases h
        have hx := (am_okL_cons.mp hs).1
        exact ⟨(am_okL_cons.mp (am_okL_cons.mp (am_okL_cons.mp hs).2).2).2, am_gsetok hg hx (fun z => absurd hc.2.1 z)⟩
      · cases h
    · cases h
  · unfold am_rst at h
    split at h
    · split at h
      · cases h; exact ⟨(am_okL_cons.mp (am_okL_cons.mp (am_okL_cons.mp hs).2).2).2, hg⟩
      · cases h
    · cases h
  · unfold am_aln at h
    split at h
    · split at h
      · cases h; exact ⟨am_okL_cons.mpr ⟨am_len_ok hg _ _, (am_okL_cons.mp hs).2⟩, hg⟩
      · cases h
    · cases h
  · split at h
    · unfold am_obi at h
      split at h
      · cases h; exact ⟨(am_okL_cons.mp hs).2, hg⟩
      · cases h
    · cases h
  · split at h
    · unfold am_acp at h
      split at h
      · split at h
        · rename_i hc
          cases h
          exact ⟨(am_okL_cons.mp (am_okL_cons.mp (am_okL_cons.mp (am_okL_cons.mp (am_okL_cons.mp hs).2).2).2).2).2, am_gcpyok hg hc.2.2.1⟩
        · cases h
      · cases h
    · split at h
      · unfold am_mx at h
        split at h
        · split at h
          · cases h
            have hy := (am_okL_cons.mp hs).1
            have hx := (am_okL_cons.mp (am_okL_cons.mp hs).2).1
            refine ⟨am_okL_cons.mpr ⟨?_, (am_okL_cons.mp (am_okL_cons.mp hs).2).2⟩, hg⟩
            dsimp only [vI]
            split
            · exact hy
            · exact hx
          · cases h
        · cases h
      · split at h
        · unfold am_mn at h
          split at h
          · split at h
            · cases h
              have hy := (am_okL_cons.mp hs).1
              have hx := (am_okL_cons.mp (am_okL_cons.mp hs).2).1
              refine ⟨am_okL_cons.mpr ⟨?_, (am_okL_cons.mp (am_okL_cons.mp hs).2).2⟩, hg⟩
              dsimp only [vI]
              split
              · exact hy
              · exact hx
            · cases h
          · cases h
        · cases h
  · cases h
theorem am_mk1ok {g r : GI} {N : Nat} {t : List AV} {q : List AV × GI × GI × Nat} (h : am_mk1 g r N t = some q) (ht : am_okL t) (hg : am_okG g) : am_okL q.1 ∧ am_okG q.2.1 ∧ q.2.2.2 = N + 1 := by
  unfold am_mk1 at h
  cases h
  exact ⟨am_okL_cons.mpr ⟨trivial, ht⟩, am_gfilok hg, rfl⟩
theorem am_nwok {i : Instr} {a : Int} {g r : GI} {N : Nat} {st : List AV} {q : List AV × GI × GI × Nat} (h : am_nw i a g r N st = some q) (hs : am_okL st) (hg : am_okG g) : am_okL q.1 ∧ am_okG q.2.1 ∧ q.2.2.2 = N + 1 ∧ N < NA := by
  unfold am_nw at h
  split at h
  · split at h
    · rename_i hc
      obtain ⟨h1, h2, h3⟩ := am_mk1ok h hs hg
      exact ⟨h1, h2, h3, hc.1⟩
    · cases h
  · unfold am_na at h
    split at h
    · split at h
      · rename_i hc
        obtain ⟨h1, h2, h3⟩ := am_mk1ok h (am_okL_cons.mp hs).2 hg
        exact ⟨h1, h2, h3, hc.1⟩
      · cases h
    · cases h
  · unfold am_na at h
    split at h
    · split at h
      · rename_i hc
        obtain ⟨h1, h2, h3⟩ := am_mk1ok h (am_okL_cons.mp hs).2 hg
        exact ⟨h1, h2, h3, hc.1⟩
      · cases h
    · cases h
  · cases h
/-- a step: which group did it -/
theorem am_stepeq {e : EI} {pc : Nat} {ls st : List AV} {g r : GI} {N : Nat} {q : Nat × List AV × List AV × GI × GI × Nat} (h : am_step e pc ls st g r N = some q) :
    (∃ v, am_ld e.1 ls = some v ∧ q = (pc + e.2.1, ls, v :: st, g, r, N)) ∨ (∃ v, am_cst e.1 e.2.2.1 = some v ∧ q = (pc + e.2.1, ls, v :: st, g, r, N)) ∨ (∃ w, am_sto e.1 ls st = some w ∧ q = (pc + e.2.1, w.1, w.2, g, r, N)) ∨
    (∃ w, am_op e.1 st = some w ∧ q = (pc + e.2.1, ls, w, g, r, N)) ∨ (∃ w, am_br e.1 e.2.2.1 pc st = some w ∧ q = (w.1, ls, w.2, g, r, N)) ∨ (∃ w, am_hp e.1 e.2.2.1 e.2.2.2.1 e.2.2.2.2.2 g r N st = some w ∧ q = (pc + e.2.1, ls, w.1, w.2.1, w.2.2, N)) ∨
    (∃ w, am_nw e.1 e.2.2.1 g r N st = some w ∧ q = (pc + e.2.1, ls, w.1, w.2.1, w.2.2.1, w.2.2.2)) := by
  unfold am_step at h
  split at h
  · rename_i v hv; exact Or.inl ⟨v, hv, (Option.some.inj h).symm⟩
  refine Or.inr ?_
  split at h
  · rename_i v hv; exact Or.inl ⟨v, hv, (Option.some.inj h).symm⟩
  refine Or.inr ?_
  split at h
  · rename_i v hv; exact Or.inl ⟨v, hv, (Option.some.inj h).symm⟩
  refine Or.inr ?_
  split at h
  · rename_i v hv; exact Or.inl ⟨v, hv, (Option.some.inj h).symm⟩
  refine Or.inr ?_
  split at h
  · rename_i v hv; exact Or.inl ⟨v, hv, (Option.some.inj h).symm⟩
  refine Or.inr ?_
  split at h
  · rename_i v hv; exact Or.inl ⟨v, hv, (Option.some.inj h).symm⟩
  refine Or.inr ?_
  split at h
  · rename_i v hv; exact ⟨v, hv, (Option.some.inj h).symm⟩
  · cases h
theorem am_stepok {m : Nat} {e : EI} {pc : Nat} {ls st : List AV} {g r : GI} {N : Nat} {pc' : Nat} {ls' st' : List AV} {g' r' : GI} {N' : Nat} (hk : am_chk m pc e = true) (h : am_step e pc ls st g r N = some (pc', ls', st', g', r', N')) (hl : am_okL ls) (hs : am_okL st) (hg : am_okG g) (hN : N ≤ NA) :
    am_okL ls' ∧ am_okL st' ∧ am_okG g' ∧ ls'.length = ls.length ∧ N ≤ N' ∧ N' ≤ NA := by
  have ha : am_aux m pc e.1 e.2.2.1 e.2.2.2.1 e.2.2.2.2.1 e.2.2.2.2.2 = true := by
    unfold am_chk at hk
    simp only [Bool.and_eq_true] at hk
    exact hk.2.2
  rcases am_stepeq h with ⟨v, h1, h2⟩ | ⟨v, h1, h2⟩ | ⟨v, h1, h2⟩ | ⟨v, h1, h2⟩ | ⟨v, h1, h2⟩ | ⟨v, h1, h2⟩ | ⟨v, h1, h2⟩
  · cases h2; exact ⟨hl, am_okL_cons.mpr ⟨am_ldok h1 hl, hs⟩, hg, rfl, Nat.le_refl _, hN⟩
  · cases h2; exact ⟨hl, am_okL_cons.mpr ⟨am_cstok ha h1, hs⟩, hg, rfl, Nat.le_refl _, hN⟩
  · cases h2
    obtain ⟨a1, a2, a3⟩ := am_stook h1 hl hs
    exact ⟨a1, a2, hg, a3, Nat.le_refl _, hN⟩
  · cases h2; exact ⟨hl, am_opok h1 hs, hg, rfl, Nat.le_refl _, hN⟩
  · cases h2; exact ⟨hl, am_brok h1 hs, hg, rfl, Nat.le_refl _, hN⟩
  · cases h2
    obtain ⟨a1, a2⟩ := am_hpok h1 hs hg
    exact ⟨hl, a1, a2, rfl, Nat.le_refl _, hN⟩
  · cases h2
    obtain ⟨a1, a2, a3, a4⟩ := am_nwok h1 hs hg
    exact ⟨hl, a1, a2, rfl, by omega, by omega⟩
theorem am_popok : ∀ {n : Nat} {acc st : List AV} {q : List AV × List AV}, am_pop n acc st = some q → am_okL acc → am_okL st → am_okL q.1 ∧ am_okL q.2
  | 0, _, _, _, h, h1, h2 => by cases h; exact ⟨h1, h2⟩
  | _ + 1, _, [], _, h, _, _ => by cases h
  | n + 1, _, _ :: _, _, h, h1, h2 => am_popok (n := n) h (am_okL_cons.mpr ⟨(am_okL_cons.mp h2).1, h1⟩) (am_okL_cons.mp h2).2
theorem am_caleq {i : Instr} {b c d N : Nat} {st args rest : List AV} (h : am_cal i b c d N st = some (args, rest)) : am_isC i = true ∧ d ≤ 3 ∧ am_pop c [] st = some (args, rest) ∧ am_wd rest ≤ 8 ∧ (am_exp args).length ≤ am_ml b ∧ args.all (fun v => !am_isN v) = true ∧ (d = 1 ∨ am_thi N b args = true) := by
  unfold am_cal at h
  split at h
  · rename_i hc
    split at h
    · cases h
    · rename_i x y e
      split at h
      · rename_i hd
        cases h
        exact ⟨hc.1, hc.2, e, hd⟩
      · cases h
  · cases h
theorem am_expok : ∀ {l : List AV}, am_okL l → am_okL (am_exp l)
  | [], h => h
  | v :: t, h => by
    have h1 := am_okL_cons.mp h
    unfold am_exp
    split
    · exact am_okL_cons.mpr ⟨h1.1, am_okL_cons.mpr ⟨trivial, am_expok h1.2⟩⟩
    · exact am_okL_cons.mpr ⟨h1.1, am_expok h1.2⟩
theorem am_iniok {m : Nat} {l : List AV} (h : am_okL l) : am_okL (am_ini m l) := by
  intro v hv
  unfold am_ini at hv
  rcases List.mem_append.mp hv with h1 | h1
  · exact am_expok h v h1
  · rw [(List.mem_replicate.mp h1).2]; trivial
theorem am_inilen {m : Nat} {l : List AV} (h : (am_exp l).length ≤ am_ml m) : (am_ini m l).length = am_ml m := by
  unfold am_ini
  rw [List.length_append, List.length_replicate]
  omega
theorem am_retok {i : Instr} {rt : Option FieldType} {st : List AV} {v : Option AV} (h : am_ret i rt st = some v) (hs : am_okL st) : ∀ x, v = some x → am_okV x := by
  intro x hx
  subst hx
  unfold am_ret at h
  split at h
  · split at h
    · cases h; exact (am_okL_cons.mp hs).1
    · cases h
  · cases h; exact (am_okL_cons.mp hs).1
  · cases h; trivial
  · cases h
  · cases h
/-- a row of the run: an end, a call and what follows, or a step and what follows -/
theorem am_exeq {n m pc : Nat} {ls st : List AV} {g r : GI} {N : Nat} {v : Option AV} {g' r' : GI} {N' : Nat} (h : am_ex (n + 1) m pc ls st g r N = some (v, g', r', N')) :
    ∃ e, am_code m pc = some e ∧ ((am_ret e.1 (am_rt m) st = some v ∧ g' = g ∧ r' = r ∧ N' = N) ∨
      (∃ args rest v1 g1 r1 N1, am_cal e.1 e.2.2.2.1 e.2.2.2.2.1 e.2.2.2.2.2 N st = some (args, rest) ∧ am_ex n e.2.2.2.1 0 (am_ini e.2.2.2.1 args) [] g r N = some (v1, g1, r1, N1) ∧ am_ex n m (pc + 3) ls (am_psh v1 rest) g1 r1 N1 = some (v, g', r', N')) ∨
      (∃ pc1 ls1 st1 g1 r1 N1, am_step e pc ls st g r N = some (pc1, ls1, st1, g1, r1, N1) ∧ am_ex n m pc1 ls1 st1 g1 r1 N1 = some (v, g', r', N'))) := by
  rw [am_ex] at h
  split at h
  · cases h
  · rename_i e he
    refine ⟨e, he, ?_⟩
    split at h
    · rename_i v1 hv
      cases h
      exact Or.inl ⟨hv, rfl, rfl, rfl⟩
    · split at h
      · rename_i args rest hc
        split at h
        · cases h
        · rename_i v1 g1 r1 N1 h1
          exact Or.inr (Or.inl ⟨_, _, _, _, _, _, hc, h1, h⟩)
      · split at h
        · cases h
        · rename_i pc1 ls1 st1 g1 r1 N1 h1
          exact Or.inr (Or.inr ⟨_, _, _, _, _, _, h1, h⟩)
/-- the callee of a row that calls is one of the program's methods -/
theorem am_callee {m pc : Nat} {e : EI} {N : Nat} {st args rest : List AV} (hk : am_chk m pc e = true) (h : am_cal e.1 e.2.2.2.1 e.2.2.2.2.1 e.2.2.2.2.2 N st = some (args, rest)) : am_rmk m e.2.2.2.1 := by
  obtain ⟨h1, h2, -⟩ := am_caleq h
  have ha : am_aux m pc e.1 e.2.2.1 e.2.2.2.1 e.2.2.2.2.1 e.2.2.2.2.2 = true := by
    unfold am_chk at hk
    simp only [Bool.and_eq_true] at hk
    exact hk.2.2
  unfold am_isC at h1
  split at h1
  · rename_i x hx
    rw [hx] at ha
    simp only [am_aux, decide_eq_true_eq] at ha
    exact ha.2.2.2.2
  · rename_i x hx
    rw [hx] at ha
    simp only [am_aux, decide_eq_true_eq] at ha
    rcases ha with a | a | a | a
    · exact a.2.2.2.2
    · omega
    · omega
    · omega
  · rename_i x hx
    rw [hx] at ha
    simp only [am_aux, decide_eq_true_eq] at ha
    rcases ha with a | a | a
    · exact a.2.2.2.2
    · exact a.2.2.2.2
    · omega
  · cases h1
theorem am_exok : ∀ {n m pc : Nat} {ls st : List AV} {g r : GI} {N : Nat} {v : Option AV} {g' r' : GI} {N' : Nat}, am_ex n m pc ls st g r N = some (v, g', r', N') → m < 195 → am_okL ls → am_okL st → am_okG g → N ≤ NA → (∀ x, v = some x → am_okV x) ∧ am_okG g' ∧ N ≤ N' ∧ N' ≤ NA
  | 0, _, _, _, _, _, _, _, _, _, _, _, h, _, _, _, _, _ => by cases h
  | n + 1, m, pc, ls, st, g, r, N, v, g', r', N', h, hm, hl, hs, hg, hN => by
    obtain ⟨e, he, h⟩ := am_exeq h
    have hk := am_chk_of hm he
    rcases h with ⟨h1, rfl, rfl, rfl⟩ | ⟨args, rest, v1, g1, r1, N1, h1, h2, h3⟩ | ⟨pc1, ls1, st1, g1, r1, N1, h1, h2⟩
    · exact ⟨am_retok h1 hs, hg, Nat.le_refl _, hN⟩
    · have hc := am_caleq h1
      obtain ⟨o1, o2⟩ := am_popok hc.2.2.1 (fun _ h => by cases h) hs
      have hb := am_callee hk h1
      obtain ⟨a1, a2, a3, a4⟩ := am_exok h2 (by have := hb.1; omega) (am_iniok o1) (fun _ h => by cases h) hg hN
      have hst : am_okL (am_psh v1 rest) := by
        unfold am_psh
        split
        · exact o2
        · exact am_okL_cons.mpr ⟨a1 _ rfl, o2⟩
      obtain ⟨b1, b2, b3, b4⟩ := am_exok h3 hm hl hst a2 a4
      exact ⟨b1, b2, by omega, b4⟩
    · obtain ⟨a1, a2, a3, a4, a5, a6⟩ := am_stepok hk h1 hl hs hg hN
      obtain ⟨b1, b2, b3, b4⟩ := am_exok h2 hm a1 a2 a3 a6
      exact ⟨b1, b2, by omega, b4⟩
