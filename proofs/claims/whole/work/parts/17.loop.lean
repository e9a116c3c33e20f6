/-! loops: spec functions shaped like them, and their contracts. Written by wip/gen/gen17.py -/
def lp {α : Type} : Nat → Int → (Int → α → α) → α → α
  | 0, _, _, x => x
  | n + 1, k, f, x => lp n (k + 1) f (f k x)
noncomputable def fi : Nat → Int → (Int → Prop) → Int → Int
  | 0, _, _, d => d
  | n + 1, k, p, d => cif (p k) k (fi n (k + 1) p d)
theorem fi_t {n : Nat} {k d : Int} {p : Int → Prop} (h : p k) : fi (n + 1) k p d = k := cif_t h
theorem fi_f {n : Nat} {k d : Int} {p : Int → Prop} (h : ¬ p k) : fi (n + 1) k p d = fi n (k + 1) p d := cif_f h
theorem fi_congr {d : Int} {p q : Int → Prop} : ∀ {n : Nat} {k : Int}, (∀ j, k ≤ j → j < k + n → (p j ↔ q j)) → fi n k p d = fi n k q d
  | 0, _, _ => rfl
  | n + 1, k, h => by
    show cif _ _ _ = cif _ _ _
    rw [cif_congr (h k (by omega) (by omega)), fi_congr (fun j h1 h2 => h j (by omega) (by omega))]
theorem fi_range {d : Int} {p : Int → Prop} : ∀ {n : Nat} {k : Int}, fi n k p d = d ∨ (k ≤ fi n k p d ∧ fi n k p d < k + n ∧ p (fi n k p d) ∧ ∀ j, k ≤ j → j < fi n k p d → ¬ p j)
  | 0, _ => Or.inl rfl
  | n + 1, k => by
    by_cases h : p k
    · rw [fi_t h]; exact Or.inr ⟨by omega, by omega, h, fun j h1 h2 => by omega⟩
    · rw [fi_f h]
      rcases fi_range (d := d) (p := p) (n := n) (k := k + 1) with e | ⟨e1, e2, e3, e4⟩
      · exact Or.inl e
      · refine Or.inr ⟨by omega, by omega, e3, fun j h1 h2 => ?_⟩
        by_cases hj : j = k
        · rw [hj]; exact h
        · exact e4 j (by omega) h2
theorem lp_congr {α : Type} {f f' : Int → α → α} : ∀ {n : Nat} {k : Int} {x : α}, (∀ j y, k ≤ j → j < k + n → f j y = f' j y) → lp n k f x = lp n k f' x
  | 0, _, _, _ => rfl
  | n + 1, k, x, h => by
    show lp n (k + 1) f (f k x) = lp n (k + 1) f' (f' k x)
    rw [h k x (by omega) (by omega), lp_congr (fun j y h1 h2 => h j y (by omega) (by omega))]
/-- no letter of n signs at place j of array K -/
def nl (g : GI) (K : Nat) (n j : Int) : Prop := ¬ (97 ≤ g K 0 j ∧ g K 0 j ≤ 96 + n)
/-- the fault as a rule: what is left to read, place, arrow seen, letters since -/
noncomputable def fr (g : GI) (K : Nat) (s : Int) : Nat → Int → Int → Int → Int
  | 0, j, ld, _ => cif (ld = 0) j (-1)
  | n + 1, j, ld, c => cif ((97 ≤ g K 0 j ∧ g K 0 j ≤ 96 + s) ∧ c < 6) (fr g K s n (j + 1) ld (c + 1)) (cif ((g K 0 j = 62 ∨ g K 0 j = 61) ∧ ld = 0 ∧ 0 < c) (fr g K s n (j + 1) 1 0) j)
section LOOP
variable {g r : GI}
theorem l5_faultAsWord (hS : am_St r) (s : Int) (hs0 : 1 ≤ s) (hs1 : s ≤ 4) (hT : g 5 0 1 ≤ 20) : ∀ (n : Nat) (k : Int), (0 ≤ k) → (k + n = g 5 0 1) → Ou 30 2 [vR 5 0, vI s, vI k] [] g r (Rq (some (vI (fi n k (nl g 12 s) (-1)))) g r) := by
  intro n
  induction n with
  | zero =>
    intro k i0 i1
    refine o_iload_n (n := 3) rfl rfl rfl ?_
    refine o_aload_n (n := 4) rfl rfl rfl ?_
    refine o_geti (n := 7) rfl rfl rfl rfl rfl ?_
    refine o_icmp_ge (n := 10) (t := 31) rfl rfl rfl (fun h7 => ?_) (fun h7 => (by exfalso; omega))
    refine o_iconst (n := 32) rfl rfl ?_
    refine o_iret rfl rfl ?_
    first | (exfalso; omega; done) | exact ⟨rfl, rfl, rfl⟩
  | succ n ih =>
    intro k i0 i1
    refine o_iload_n (n := 3) rfl rfl rfl ?_
    refine o_aload_n (n := 4) rfl rfl rfl ?_
    refine o_geti (n := 7) rfl rfl rfl rfl rfl ?_
    refine o_icmp_ge (n := 10) (t := 31) rfl rfl rfl (fun h7 => (by exfalso; omega)) (fun h7 => ?_)
    refine o_aload_n (n := 11) rfl rfl rfl ?_
    refine of_5_0 (n := 14) hS rfl rfl ?_
    refine o_iload_n (n := 15) rfl rfl rfl ?_
    refine o_iald (n := 16) (L := 20) rfl rfl rfl rfl rfl (by omega) (by omega) ?_
    refine o_iload_n (n := 17) rfl rfl rfl ?_
    refine o_invsi (n := 20) rfl rfl rfl rfl rfl rfl (c5_isLetter _ _ hs0 hs1) ?_
    refine o_ifb_ne (n := 23) (t := 25) rfl rfl rfl (fun h20 => ?_) (fun h20 => ?_)
    · refine o_iinc_2 (n := 28) rfl rfl rfl (by omega) ?_
      refine o_goto (t := 2) rfl rfl ?_
      rw [fi_f (show ¬ nl g 12 s k from fun z => z h20)]
      exact ih (k + 1) (by omega) (by omega)
    · refine o_iload_n (n := 24) rfl rfl rfl ?_
      refine o_iret rfl rfl ?_
      first | (exfalso; omega; done) | exact ⟨by rw [fi_t (show nl g 12 s k from h20)], rfl, rfl⟩
theorem c5_faultAsWord (hS : am_St r) (s : Int) (hs0 : 1 ≤ s) (hs1 : s ≤ 4) (h0 : 0 ≤ g 5 0 1) (hT : g 5 0 1 ≤ 20) : Rt 30 [vR 5 0, vI s] g r (some (vI (fi (g 5 0 1).toNat 0 (nl g 12 s) (-1)))) g r := by
  refine rt_of ?_
  show Ou 30 0 [vR 5 0, vI s, vN] [] g r _
  refine o_iconst (n := 1) rfl rfl ?_
  refine o_istore_2 (n := 2) rfl rfl rfl ?_
  exact l5_faultAsWord hS s hs0 hs1 hT _ 0 (by omega) (by omega)
theorem l8_faultOfWord (hS : am_St r) (hs0 : 1 ≤ g 8 0 5) (hs1 : g 8 0 5 ≤ 4) (hT : g 8 0 7 ≤ 20) : ∀ (n : Nat) (k : Int), (0 ≤ k) → (k + n = g 8 0 7) → Ou 126 2 [vR 8 0, vI k] [] g r (Rq (some (vI (fi n k (nl g 21 (g 8 0 5)) (-1)))) g r) := by
  intro n
  induction n with
  | zero =>
    intro k i0 i1
    refine o_iload_n (n := 3) rfl rfl rfl ?_
    refine o_aload_n (n := 4) rfl rfl rfl ?_
    refine o_geti (n := 7) rfl rfl rfl rfl rfl ?_
    refine o_icmp_ge (n := 10) (t := 31) rfl rfl rfl (fun h7 => ?_) (fun h7 => (by exfalso; omega))
    refine o_iconst (n := 32) rfl rfl ?_
    refine o_iret rfl rfl ?_
    first | (exfalso; omega; done) | exact ⟨rfl, rfl, rfl⟩
  | succ n ih =>
    intro k i0 i1
    refine o_iload_n (n := 3) rfl rfl rfl ?_
    refine o_aload_n (n := 4) rfl rfl rfl ?_
    refine o_geti (n := 7) rfl rfl rfl rfl rfl ?_
    refine o_icmp_ge (n := 10) (t := 31) rfl rfl rfl (fun h7 => (by exfalso; omega)) (fun h7 => ?_)
    refine o_aload_n (n := 11) rfl rfl rfl ?_
    refine o_aload_n (n := 12) rfl rfl rfl ?_
    refine of_8_6 (n := 15) hS rfl rfl ?_
    refine o_iload_n (n := 16) rfl rfl rfl ?_
    refine o_iald (n := 17) (L := 20) rfl rfl rfl rfl rfl (by omega) (by omega) ?_
    refine o_invi (n := 20) rfl rfl rfl rfl rfl rfl rfl rfl rfl rfl (c8_isSign _ hs0 hs1) ?_
    refine o_ifb_ne (n := 23) (t := 25) rfl rfl rfl (fun h20 => ?_) (fun h20 => ?_)
    · refine o_iinc_1 (n := 28) rfl rfl rfl (by omega) ?_
      refine o_goto (t := 2) rfl rfl ?_
      rw [fi_f (show ¬ nl g 21 (g 8 0 5) k from fun z => z h20)]
      exact ih (k + 1) (by omega) (by omega)
    · refine o_iload_n (n := 24) rfl rfl rfl ?_
      refine o_iret rfl rfl ?_
      first | (exfalso; omega; done) | exact ⟨by rw [fi_t (show nl g 21 (g 8 0 5) k from h20)], rfl, rfl⟩
theorem c8_faultOfWord (hS : am_St r) (hs0 : 1 ≤ g 8 0 5) (hs1 : g 8 0 5 ≤ 4) (h0 : 0 ≤ g 8 0 7) (hT : g 8 0 7 ≤ 20) : Rt 126 [vR 8 0] g r (some (vI (fi (g 8 0 7).toNat 0 (nl g 21 (g 8 0 5)) (-1)))) g r := by
  refine rt_of ?_
  show Ou 126 0 [vR 8 0, vN] [] g r _
  refine o_iconst (n := 1) rfl rfl ?_
  refine o_istore_1 (n := 2) rfl rfl rfl ?_
  exact l8_faultOfWord hS hs0 hs1 hT _ 0 (by omega) (by omega)
theorem l5_faultAsRule (hS : am_St r) (s : Int) (hs0 : 1 ≤ s) (hs1 : s ≤ 4) (hT : g 5 0 1 ≤ 20) : ∀ (n : Nat) (k ld c : Int), (0 ≤ k) → (k + n = g 5 0 1) → (ld = 0 ∨ ld = 1) → (0 ≤ c) → (c ≤ 6) → Ou 31 7 [vR 5 0, vI s, vI ld, vI c, vI k] [] g r (Rq (some (vI (fr g 12 s n k ld c))) g r) := by
  intro n
  induction n with
  | zero =>
    intro k ld c i0 i1 i2 i3 i4
    refine o_iload (n := 9) rfl rfl rfl ?_
    refine o_aload_n (n := 10) rfl rfl rfl ?_
    refine o_geti (n := 13) rfl rfl rfl rfl rfl ?_
    refine o_icmp_ge (n := 16) (t := 79) rfl rfl rfl (fun h13 => ?_) (fun h13 => (by exfalso; omega))
    refine o_iload_n (n := 80) rfl rfl rfl ?_
    refine o_if_eq (n := 83) (t := 87) rfl rfl rfl (fun h80 => ?_) (fun h80 => ?_)
    · refine o_aload_n (n := 88) rfl rfl rfl ?_
      refine o_geti (n := 91) rfl rfl rfl rfl rfl ?_
      refine o_iret rfl rfl ?_
      first | (exfalso; omega; done) | exact ⟨by rw [show fr g 12 s 0 k ld c = cif (ld = 0) k (-1) from rfl]; first | (rw [cif_t (by omega)]; rw [show k = g 5 0 1 by omega]) | (rw [cif_f (by omega)]), rfl, rfl⟩
    · refine o_iconst (n := 84) rfl rfl ?_
      refine o_goto (t := 91) rfl rfl ?_
      refine o_iret rfl rfl ?_
      first | (exfalso; omega; done) | exact ⟨by rw [show fr g 12 s 0 k ld c = cif (ld = 0) k (-1) from rfl]; first | (rw [cif_t (by omega)]; rw [show k = g 5 0 1 by omega]) | (rw [cif_f (by omega)]), rfl, rfl⟩
  | succ n ih =>
    intro k ld c i0 i1 i2 i3 i4
    refine o_iload (n := 9) rfl rfl rfl ?_
    refine o_aload_n (n := 10) rfl rfl rfl ?_
    refine o_geti (n := 13) rfl rfl rfl rfl rfl ?_
    refine o_icmp_ge (n := 16) (t := 79) rfl rfl rfl (fun h13 => (by exfalso; omega)) (fun h13 => ?_)
    refine o_aload_n (n := 17) rfl rfl rfl ?_
    refine of_5_0 (n := 20) hS rfl rfl ?_
    refine o_iload (n := 22) rfl rfl rfl ?_
    refine o_iald (n := 23) (L := 20) rfl rfl rfl rfl rfl (by omega) (by omega) ?_
    refine o_iload_n (n := 24) rfl rfl rfl ?_
    refine o_invsi (n := 27) rfl rfl rfl rfl rfl rfl (c5_isLetter _ _ hs0 hs1) ?_
    refine o_ifb_eq (n := 30) (t := 42) rfl rfl rfl (fun h27 => ?_) (fun h27 => ?_)
    · refine o_aload_n (n := 43) rfl rfl rfl ?_
      refine of_5_0 (n := 46) hS rfl rfl ?_
      refine o_iload (n := 48) rfl rfl rfl ?_
      refine o_iald (n := 49) (L := 20) rfl rfl rfl rfl rfl (by omega) (by omega) ?_
      refine o_invsi (n := 52) rfl rfl rfl rfl rfl rfl (c5_isArrow _) ?_
      refine o_ifb_eq (n := 55) (t := 70) rfl rfl rfl (fun h52 => ?_) (fun h52 => ?_)
      · refine o_iload (n := 72) rfl rfl rfl ?_
        refine o_iret rfl rfl ?_
        first | (exfalso; omega; done) | exact ⟨by rw [show fr g 12 s (n + 1) k ld c = k from (cif_f (by omega)).trans (cif_f (by omega))], rfl, rfl⟩
      · refine o_iload_n (n := 56) rfl rfl rfl ?_
        refine o_if_ne (n := 59) (t := 70) rfl rfl rfl (fun h56 => ?_) (fun h56 => ?_)
        · refine o_iload (n := 72) rfl rfl rfl ?_
          refine o_iret rfl rfl ?_
          first | (exfalso; omega; done) | exact ⟨by rw [show fr g 12 s (n + 1) k ld c = k from (cif_f (by omega)).trans (cif_f (by omega))], rfl, rfl⟩
        · refine o_iload_n (n := 60) rfl rfl rfl ?_
          refine o_if_le (n := 63) (t := 70) rfl rfl rfl (fun h60 => ?_) (fun h60 => ?_)
          · refine o_iload (n := 72) rfl rfl rfl ?_
            refine o_iret rfl rfl ?_
            first | (exfalso; omega; done) | exact ⟨by rw [show fr g 12 s (n + 1) k ld c = k from (cif_f (by omega)).trans (cif_f (by omega))], rfl, rfl⟩
          · refine o_iconst (n := 64) rfl rfl ?_
            refine o_istore_2 (n := 65) rfl rfl rfl ?_
            refine o_iconst (n := 66) rfl rfl ?_
            refine o_istore_3 (n := 67) rfl rfl rfl ?_
            refine o_goto (t := 73) rfl rfl ?_
            refine o_iinc_4 (n := 76) rfl rfl rfl (by omega) ?_
            refine o_goto (t := 7) rfl rfl ?_
            first | (rw [show fr g 12 s (n + 1) k ld c = fr g 12 s n (k + 1) ld (c + 1) from cif_t (by omega)]; exact ih (k + 1) ld (c + 1) (by omega) (by omega) (by omega) (by omega) (by omega)) | (rw [show fr g 12 s (n + 1) k ld c = fr g 12 s n (k + 1) 1 0 from (cif_f (by omega)).trans (cif_t (by omega))]; exact ih (k + 1) 1 0 (by omega) (by omega) (by omega) (by omega) (by omega))
    · refine o_iload_n (n := 31) rfl rfl rfl ?_
      refine o_bipush (n := 33) rfl rfl ?_
      refine o_icmp_ge (n := 36) (t := 42) rfl rfl rfl (fun h33 => ?_) (fun h33 => ?_)
      · refine o_aload_n (n := 43) rfl rfl rfl ?_
        refine of_5_0 (n := 46) hS rfl rfl ?_
        refine o_iload (n := 48) rfl rfl rfl ?_
        refine o_iald (n := 49) (L := 20) rfl rfl rfl rfl rfl (by omega) (by omega) ?_
        refine o_invsi (n := 52) rfl rfl rfl rfl rfl rfl (c5_isArrow _) ?_
        refine o_ifb_eq (n := 55) (t := 70) rfl rfl rfl (fun h52 => ?_) (fun h52 => ?_)
        · refine o_iload (n := 72) rfl rfl rfl ?_
          refine o_iret rfl rfl ?_
          first | (exfalso; omega; done) | exact ⟨by rw [show fr g 12 s (n + 1) k ld c = k from (cif_f (by omega)).trans (cif_f (by omega))], rfl, rfl⟩
        · refine o_iload_n (n := 56) rfl rfl rfl ?_
          refine o_if_ne (n := 59) (t := 70) rfl rfl rfl (fun h56 => ?_) (fun h56 => ?_)
          · refine o_iload (n := 72) rfl rfl rfl ?_
            refine o_iret rfl rfl ?_
            first | (exfalso; omega; done) | exact ⟨by rw [show fr g 12 s (n + 1) k ld c = k from (cif_f (by omega)).trans (cif_f (by omega))], rfl, rfl⟩
          · refine o_iload_n (n := 60) rfl rfl rfl ?_
            refine o_if_le (n := 63) (t := 70) rfl rfl rfl (fun h60 => ?_) (fun h60 => ?_)
            · refine o_iload (n := 72) rfl rfl rfl ?_
              refine o_iret rfl rfl ?_
              first | (exfalso; omega; done) | exact ⟨by rw [show fr g 12 s (n + 1) k ld c = k from (cif_f (by omega)).trans (cif_f (by omega))], rfl, rfl⟩
            · refine o_iconst (n := 64) rfl rfl ?_
              refine o_istore_2 (n := 65) rfl rfl rfl ?_
              refine o_iconst (n := 66) rfl rfl ?_
              refine o_istore_3 (n := 67) rfl rfl rfl ?_
              refine o_goto (t := 73) rfl rfl ?_
              refine o_iinc_4 (n := 76) rfl rfl rfl (by omega) ?_
              refine o_goto (t := 7) rfl rfl ?_
              first | (rw [show fr g 12 s (n + 1) k ld c = fr g 12 s n (k + 1) ld (c + 1) from cif_t (by omega)]; exact ih (k + 1) ld (c + 1) (by omega) (by omega) (by omega) (by omega) (by omega)) | (rw [show fr g 12 s (n + 1) k ld c = fr g 12 s n (k + 1) 1 0 from (cif_f (by omega)).trans (cif_t (by omega))]; exact ih (k + 1) 1 0 (by omega) (by omega) (by omega) (by omega) (by omega))
      · refine o_iinc_3 (n := 39) rfl rfl rfl (by omega) ?_
        refine o_goto (t := 73) rfl rfl ?_
        refine o_iinc_4 (n := 76) rfl rfl rfl (by omega) ?_
        refine o_goto (t := 7) rfl rfl ?_
        first | (rw [show fr g 12 s (n + 1) k ld c = fr g 12 s n (k + 1) ld (c + 1) from cif_t (by omega)]; exact ih (k + 1) ld (c + 1) (by omega) (by omega) (by omega) (by omega) (by omega)) | (rw [show fr g 12 s (n + 1) k ld c = fr g 12 s n (k + 1) 1 0 from (cif_f (by omega)).trans (cif_t (by omega))]; exact ih (k + 1) 1 0 (by omega) (by omega) (by omega) (by omega) (by omega))
theorem c5_faultAsRule (hS : am_St r) (s : Int) (hs0 : 1 ≤ s) (hs1 : s ≤ 4) (h0 : 0 ≤ g 5 0 1) (hT : g 5 0 1 ≤ 20) : Rt 31 [vR 5 0, vI s] g r (some (vI (fr g 12 s (g 5 0 1).toNat 0 0 0))) g r := by
  refine rt_of ?_
  show Ou 31 0 [vR 5 0, vI s, vN, vN, vN] [] g r _
  refine o_iconst (n := 1) rfl rfl ?_
  refine o_istore_2 (n := 2) rfl rfl rfl ?_
  refine o_iconst (n := 3) rfl rfl ?_
  refine o_istore_3 (n := 4) rfl rfl rfl ?_
  refine o_iconst (n := 5) rfl rfl ?_
  refine o_istore_4 (n := 7) rfl rfl rfl ?_
  exact l5_faultAsRule hS s hs0 hs1 hT _ 0 0 0 (by omega) (by omega) (by omega) (by omega) (by omega)
theorem l5_arrowPlace (hS : am_St r) (hT : g 5 0 1 ≤ 20) : ∀ (n : Nat) (k : Int), (0 ≤ k) → (k + n = g 5 0 1) → Ou 32 2 [vR 5 0, vI k] [] g r (Rq (some (vI (fi n k (fun j => g 12 0 j = 62 ∨ g 12 0 j = 61) (g 5 0 1)))) g r) := by
  intro n
  induction n with
  | zero =>
    intro k i0 i1
    refine o_iload_n (n := 3) rfl rfl rfl ?_
    refine o_aload_n (n := 4) rfl rfl rfl ?_
    refine o_geti (n := 7) rfl rfl rfl rfl rfl ?_
    refine o_icmp_ge (n := 10) (t := 30) rfl rfl rfl (fun h7 => ?_) (fun h7 => (by exfalso; omega))
    refine o_aload_n (n := 31) rfl rfl rfl ?_
    refine o_geti (n := 34) rfl rfl rfl rfl rfl ?_
    refine o_iret rfl rfl ?_
    first | (exfalso; omega; done) | exact ⟨rfl, rfl, rfl⟩
  | succ n ih =>
    intro k i0 i1
    refine o_iload_n (n := 3) rfl rfl rfl ?_
    refine o_aload_n (n := 4) rfl rfl rfl ?_
    refine o_geti (n := 7) rfl rfl rfl rfl rfl ?_
    refine o_icmp_ge (n := 10) (t := 30) rfl rfl rfl (fun h7 => (by exfalso; omega)) (fun h7 => ?_)
    refine o_aload_n (n := 11) rfl rfl rfl ?_
    refine of_5_0 (n := 14) hS rfl rfl ?_
    refine o_iload_n (n := 15) rfl rfl rfl ?_
    refine o_iald (n := 16) (L := 20) rfl rfl rfl rfl rfl (by omega) (by omega) ?_
    refine o_invsi (n := 19) rfl rfl rfl rfl rfl rfl (c5_isArrow _) ?_
    refine o_ifb_eq (n := 22) (t := 24) rfl rfl rfl (fun h19 => ?_) (fun h19 => ?_)
    · refine o_iinc_1 (n := 27) rfl rfl rfl (by omega) ?_
      refine o_goto (t := 2) rfl rfl ?_
      rw [fi_f (p := fun j => g 12 0 j = 62 ∨ g 12 0 j = 61) h19]
      exact ih (k + 1) (by omega) (by omega)
    · refine o_iload_n (n := 23) rfl rfl rfl ?_
      refine o_iret rfl rfl ?_
      first | (exfalso; omega; done) | exact ⟨by rw [fi_t (p := fun j => g 12 0 j = 62 ∨ g 12 0 j = 61) h19], rfl, rfl⟩
theorem c5_arrowPlace (hS : am_St r) (h0 : 0 ≤ g 5 0 1) (hT : g 5 0 1 ≤ 20) : Rt 32 [vR 5 0] g r (some (vI (fi (g 5 0 1).toNat 0 (fun j => g 12 0 j = 62 ∨ g 12 0 j = 61) (g 5 0 1)))) g r := by
  refine rt_of ?_
  show Ou 32 0 [vR 5 0, vN] [] g r _
  refine o_iconst (n := 1) rfl rfl ?_
  refine o_istore_1 (n := 2) rfl rfl rfl ?_
  exact l5_arrowPlace hS hT _ 0 (by omega) (by omega)
/-- row q lies in the word at place j -/
def at1 (g : GI) (q j : Int) : Prop := 0 ≤ j ∧ g 1 q 1 ≤ g 1 0 1 - j ∧ ∀ k, 0 ≤ k → k < g 1 q 1 → g 10 0 (j + k) = g 10 q k
def at8 (g : GI) (i j : Int) : Prop := j + g 23 0 (2 * i) ≤ g 8 0 14 ∧ ∀ k, 0 ≤ k → k < g 23 0 (2 * i) → g 25 0 (j + k) = g 22 0 (12 * i + k)
theorem l1_hasAt (hS : am_St r) (q j : Int) (hq : 0 ≤ q) (hq1 : q < 17) (hl : g 1 q 1 ≤ 6) (hl1 : g 1 q 1 ≤ am_al 10 q) (hw : g 1 0 1 ≤ 24) (hj : 0 ≤ j) (hj1 : g 1 q 1 ≤ g 1 0 1 - j) : ∀ (n : Nat) (k : Int), (0 ≤ k) → (k + n = g 1 q 1) → (∀ x, 0 ≤ x → x < k → g 10 0 (j + x) = g 10 q x) → Ou 15 21 [vR 1 0, vI j, vR 1 q, vI k] [] g r (Rq (some (vI (bi (at1 g q j)))) g r) := by
  intro n
  induction n with
  | zero =>
    intro k i0 i1 i2
    refine o_iload_n (n := 22) rfl rfl rfl ?_
    refine o_aload_n (n := 23) rfl rfl rfl ?_
    refine o_geti (n := 26) rfl rfl rfl (ok_1 (by omega) (by omega)) rfl ?_
    refine o_icmp_ge (n := 29) (t := 54) rfl rfl rfl (fun h26 => ?_) (fun h26 => (by exfalso; omega))
    refine o_iconst (n := 55) rfl rfl ?_
    refine o_zret rfl rfl (by omega) ?_
    first | (exfalso; omega; done) | exact ⟨by rw [bi_t (show at1 g q j from ⟨hj, hj1, fun x h0 h1 => i2 x h0 (by omega)⟩)], rfl, rfl⟩
  | succ n ih =>
    intro k i0 i1 i2
    refine o_iload_n (n := 22) rfl rfl rfl ?_
    refine o_aload_n (n := 23) rfl rfl rfl ?_
    refine o_geti (n := 26) rfl rfl rfl (ok_1 (by omega) (by omega)) rfl ?_
    refine o_icmp_ge (n := 29) (t := 54) rfl rfl rfl (fun h26 => (by exfalso; omega)) (fun h26 => ?_)
    refine o_aload_n (n := 30) rfl rfl rfl ?_
    refine of_1_0 (n := 33) hS rfl rfl (by omega) (by omega) ?_
    refine o_iload_n (n := 34) rfl rfl rfl ?_
    refine o_iload_n (n := 35) rfl rfl rfl ?_
    refine o_iadd (n := 36) rfl rfl (by omega) ?_
    refine o_iald (n := 37) rfl rfl (ok_10 (by omega) (by omega)) rfl rfl (by omega) (show j + k < 24 by omega) ?_
    refine o_aload_n (n := 38) rfl rfl rfl ?_
    refine of_1_0 (n := 41) hS rfl rfl (by omega) (by omega) ?_
    refine o_iload_n (n := 42) rfl rfl rfl ?_
    refine o_iald (n := 43) rfl rfl (ok_10 (by omega) (by omega)) rfl rfl (by omega) (by omega) ?_
    refine o_icmp_eq (n := 46) (t := 48) rfl rfl rfl (fun h43 => ?_) (fun h43 => ?_)
    · refine o_iinc_3 (n := 51) rfl rfl rfl (by omega) ?_
      refine o_goto (t := 21) rfl rfl ?_
      exact ih (k + 1) (by omega) (by omega) (fun x h0 h1 => by
        by_cases e : x = k
        · rw [e]; exact h43
        · exact i2 x h0 (by omega))
    · refine o_iconst (n := 47) rfl rfl ?_
      refine o_zret rfl rfl (by omega) ?_
      first | (exfalso; omega; done) | exact ⟨by rw [bi_f (fun (z : at1 g q j) => h43 (z.2.2 k i0 (by omega)))], rfl, rfl⟩
theorem c1_hasAt (hS : am_St r) (q j : Int) (hq : 0 ≤ q) (hq1 : q < 17) (hl : g 1 q 1 ≤ 6) (hl1 : g 1 q 1 ≤ am_al 10 q) (hw : g 1 0 1 ≤ 24) (hw0 : 0 ≤ g 1 0 1) (hj2 : j ≤ 100) (hl0 : 0 ≤ g 1 q 1) : Rt 15 [vR 1 0, vI j, vR 1 q] g r (some (vI (bi (at1 g q j)))) g r := by
  refine rt_of ?_
  show Ou 15 0 [vR 1 0, vI j, vR 1 q, vN] [] g r _
  refine o_iload_n (n := 1) rfl rfl rfl ?_
  refine o_if_lt (n := 4) (t := 17) rfl rfl rfl (fun h1 => ?_) (fun h1 => ?_)
  · refine o_iconst (n := 18) rfl rfl ?_
    refine o_zret rfl rfl (by omega) ?_
    first | (exfalso; omega; done) | exact ⟨by rw [bi_f (fun (z : at1 g q j) => by have := z.1; have := z.2.1; omega)], rfl, rfl⟩
  · refine o_aload_n (n := 5) rfl rfl rfl ?_
    refine o_geti (n := 8) rfl rfl rfl (ok_1 (by omega) (by omega)) rfl ?_
    refine o_aload_n (n := 9) rfl rfl rfl ?_
    refine o_geti (n := 12) rfl rfl rfl (ok_1 (by omega) (by omega)) rfl ?_
    refine o_iload_n (n := 13) rfl rfl rfl ?_
    refine o_isub (n := 14) rfl rfl (by omega) ?_
    refine o_icmp_le (n := 17) (t := 19) rfl rfl rfl (fun h14 => ?_) (fun h14 => ?_)
    · refine o_iconst (n := 20) rfl rfl ?_
      refine o_istore_3 (n := 21) rfl rfl rfl ?_
      exact l1_hasAt hS q j hq hq1 hl hl1 hw h1 h14 (g 1 q 1).toNat 0 (by omega) (by omega) (fun x h0 h1 => by omega)
    · refine o_iconst (n := 18) rfl rfl ?_
      refine o_zret rfl rfl (by omega) ?_
      first | (exfalso; omega; done) | exact ⟨by rw [bi_f (fun (z : at1 g q j) => by have := z.1; have := z.2.1; omega)], rfl, rfl⟩
theorem l1_firstPlaceOf (hS : am_St r) (q : Int) (hq : 0 ≤ q) (hq1 : q < 17) (hl0 : 0 ≤ g 1 q 1) (hl : g 1 q 1 ≤ 6) (hl1 : g 1 q 1 ≤ am_al 10 q) (hw0 : 0 ≤ g 1 0 1) (hw : g 1 0 1 ≤ 24) : ∀ (n : Nat) (k : Int), (0 ≤ k) → (k + n = g 1 0 1) → Ou 16 2 [vR 1 0, vR 1 q, vI k] [] g r (Rq (some (vI (fi n k (at1 g q) (-1)))) g r) := by
  intro n
  induction n with
  | zero =>
    intro k i0 i1
    refine o_iload_n (n := 3) rfl rfl rfl ?_
    refine o_aload_n (n := 4) rfl rfl rfl ?_
    refine o_geti (n := 7) rfl rfl rfl (ok_1 (by omega) (by omega)) rfl ?_
    refine o_icmp_ge (n := 10) (t := 27) rfl rfl rfl (fun h7 => ?_) (fun h7 => (by exfalso; omega))
    refine o_iconst (n := 28) rfl rfl ?_
    refine o_iret rfl rfl ?_
    first | (exfalso; omega; done) | exact ⟨rfl, rfl, rfl⟩
  | succ n ih =>
    intro k i0 i1
    refine o_iload_n (n := 3) rfl rfl rfl ?_
    refine o_aload_n (n := 4) rfl rfl rfl ?_
    refine o_geti (n := 7) rfl rfl rfl (ok_1 (by omega) (by omega)) rfl ?_
    refine o_icmp_ge (n := 10) (t := 27) rfl rfl rfl (fun h7 => (by exfalso; omega)) (fun h7 => ?_)
    refine o_aload_n (n := 11) rfl rfl rfl ?_
    refine o_iload_n (n := 12) rfl rfl rfl ?_
    refine o_aload_n (n := 13) rfl rfl rfl ?_
    refine o_invi (n := 16) rfl rfl rfl rfl rfl rfl rfl rfl rfl (ok_1 (by omega) (by omega)) (c1_hasAt hS q k hq hq1 hl hl1 hw hw0 (by omega) hl0) ?_
    refine o_ifb_eq (n := 19) (t := 21) rfl rfl rfl (fun h16 => ?_) (fun h16 => ?_)
    · refine o_iinc_2 (n := 24) rfl rfl rfl (by omega) ?_
      refine o_goto (t := 2) rfl rfl ?_
      rw [fi_f h16]
      exact ih (k + 1) (by omega) (by omega)
    · refine o_iload_n (n := 20) rfl rfl rfl ?_
      refine o_iret rfl rfl ?_
      first | (exfalso; omega; done) | exact ⟨by rw [fi_t h16], rfl, rfl⟩
theorem c1_firstPlaceOf (hS : am_St r) (q : Int) (hq : 0 ≤ q) (hq1 : q < 17) (hl0 : 0 ≤ g 1 q 1) (hl : g 1 q 1 ≤ 6) (hl1 : g 1 q 1 ≤ am_al 10 q) (hw0 : 0 ≤ g 1 0 1) (hw : g 1 0 1 ≤ 24) : Rt 16 [vR 1 0, vR 1 q] g r (some (vI (fi (g 1 0 1).toNat 0 (at1 g q) (-1)))) g r := by
  refine rt_of ?_
  show Ou 16 0 [vR 1 0, vR 1 q, vN] [] g r _
  refine o_iconst (n := 1) rfl rfl ?_
  refine o_istore_2 (n := 2) rfl rfl rfl ?_
  exact l1_firstPlaceOf hS q hq hq1 hl0 hl hl1 hw0 hw _ 0 (by omega) (by omega)
/-- how many: the loop's way -/
noncomputable def ctn (P : Int → Prop) (n : Nat) (k x : Int) : Int := lp n k (fun j y => y + bi (P j)) x
theorem ctn_s {P : Int → Prop} {n : Nat} {k x : Int} : ctn P (n + 1) k x = ctn P n (k + 1) (x + bi (P k)) := rfl
theorem ctn_congr {P P' : Int → Prop} {n : Nat} {k x : Int} (h : ∀ j, k ≤ j → j < k + n → (P j ↔ P' j)) : ctn P n k x = ctn P' n k x := lp_congr (fun j y h1 h2 => by rw [bi_congr (h j h1 h2)])
theorem l1_placesOf (hS : am_St r) (q : Int) (hq : 0 ≤ q) (hq1 : q < 17) (hl0 : 0 ≤ g 1 q 1) (hl : g 1 q 1 ≤ 6) (hl1 : g 1 q 1 ≤ am_al 10 q) (hw0 : 0 ≤ g 1 0 1) (hw : g 1 0 1 ≤ 24) : ∀ (n : Nat) (k x : Int), (0 ≤ k) → (k + n = g 1 0 1) → (0 ≤ x) → (x ≤ k) → Ou 17 4 [vR 1 0, vR 1 q, vI x, vI k] [] g r (Rq (some (vI (ctn (at1 g q) n k x))) g r) := by
  intro n
  induction n with
  | zero =>
    intro k x i0 i1 i2 i3
    refine o_iload_n (n := 5) rfl rfl rfl ?_
    refine o_aload_n (n := 6) rfl rfl rfl ?_
    refine o_geti (n := 9) rfl rfl rfl (ok_1 (by omega) (by omega)) rfl ?_
    refine o_icmp_ge (n := 12) (t := 30) rfl rfl rfl (fun h9 => ?_) (fun h9 => (by exfalso; omega))
    refine o_iload_n (n := 31) rfl rfl rfl ?_
    refine o_iret rfl rfl ?_
    first | (exfalso; omega; done) | exact ⟨rfl, rfl, rfl⟩
  | succ n ih =>
    intro k x i0 i1 i2 i3
    refine o_iload_n (n := 5) rfl rfl rfl ?_
    refine o_aload_n (n := 6) rfl rfl rfl ?_
    refine o_geti (n := 9) rfl rfl rfl (ok_1 (by omega) (by omega)) rfl ?_
    refine o_icmp_ge (n := 12) (t := 30) rfl rfl rfl (fun h9 => (by exfalso; omega)) (fun h9 => ?_)
    refine o_aload_n (n := 13) rfl rfl rfl ?_
    refine o_iload_n (n := 14) rfl rfl rfl ?_
    refine o_aload_n (n := 15) rfl rfl rfl ?_
    refine o_invi (n := 18) rfl rfl rfl rfl rfl rfl rfl rfl rfl (ok_1 (by omega) (by omega)) (c1_hasAt hS q k hq hq1 hl hl1 hw hw0 (by omega) hl0) ?_
    refine o_ifb_eq (n := 21) (t := 24) rfl rfl rfl (fun h18 => ?_) (fun h18 => ?_)
    · refine o_iinc_3 (n := 27) rfl rfl rfl (by omega) ?_
      refine o_goto (t := 4) rfl rfl ?_
      rw [ctn_s]
      first | (rw [bi_t h18]; exact ih (k + 1) (x + 1) (by omega) (by omega) (by omega) (by omega)) | (rw [bi_f h18, Int.add_zero]; exact ih (k + 1) x (by omega) (by omega) (by omega) (by omega))
    · refine o_iinc_2 (n := 24) rfl rfl rfl (by omega) ?_
      refine o_iinc_3 (n := 27) rfl rfl rfl (by omega) ?_
      refine o_goto (t := 4) rfl rfl ?_
      rw [ctn_s]
      first | (rw [bi_t h18]; exact ih (k + 1) (x + 1) (by omega) (by omega) (by omega) (by omega)) | (rw [bi_f h18, Int.add_zero]; exact ih (k + 1) x (by omega) (by omega) (by omega) (by omega))
theorem c1_placesOf (hS : am_St r) (q : Int) (hq : 0 ≤ q) (hq1 : q < 17) (hl0 : 0 ≤ g 1 q 1) (hl : g 1 q 1 ≤ 6) (hl1 : g 1 q 1 ≤ am_al 10 q) (hw0 : 0 ≤ g 1 0 1) (hw : g 1 0 1 ≤ 24) : Rt 17 [vR 1 0, vR 1 q] g r (some (vI (ctn (at1 g q) (g 1 0 1).toNat 0 0))) g r := by
  refine rt_of ?_
  show Ou 17 0 [vR 1 0, vR 1 q, vN, vN] [] g r _
  refine o_iconst (n := 1) rfl rfl ?_
  refine o_istore_2 (n := 2) rfl rfl rfl ?_
  refine o_iconst (n := 3) rfl rfl ?_
  refine o_istore_3 (n := 4) rfl rfl rfl ?_
  exact l1_placesOf hS q hq hq1 hl0 hl hl1 hw0 hw _ 0 0 (by omega) (by omega) (by omega) (by omega)
theorem l8_isAt (hS : am_St r) (i j : Int) (hi : 0 ≤ i) (hi1 : i < 8) (hj : 0 ≤ j) (hj1 : j ≤ 24) (hl0 : 0 ≤ g 23 0 (2 * i)) (hl : g 23 0 (2 * i) ≤ 6) (hw : g 8 0 14 ≤ 24) (hjj : j + g 23 0 (2 * i) ≤ g 8 0 14) : ∀ (n : Nat) (k : Int), (0 ≤ k) → (k + n = g 23 0 (2 * i)) → (∀ x, 0 ≤ x → x < k → g 25 0 (j + x) = g 22 0 (12 * i + x)) → Ou 133 24 [vR 8 0, vI i, vI j, vI (g 23 0 (2 * i)), vI k] [] g r (Rq (some (vI (bi (at8 g i j)))) g r) := by
  intro n
  induction n with
  | zero =>
    intro k i0 i1 i2
    refine o_iload (n := 26) rfl rfl rfl ?_
    refine o_iload_n (n := 27) rfl rfl rfl ?_
    refine o_icmp_ge (n := 30) (t := 62) rfl rfl rfl (fun h27 => ?_) (fun h27 => (by exfalso; omega))
    refine o_iconst (n := 63) rfl rfl ?_
    refine o_zret rfl rfl (by omega) ?_
    first | (exfalso; omega; done) | exact ⟨by rw [bi_t (show at8 g i j from ⟨hjj, fun x h0 h1 => i2 x h0 (by omega)⟩)], rfl, rfl⟩
  | succ n ih =>
    intro k i0 i1 i2
    refine o_iload (n := 26) rfl rfl rfl ?_
    refine o_iload_n (n := 27) rfl rfl rfl ?_
    refine o_icmp_ge (n := 30) (t := 62) rfl rfl rfl (fun h27 => (by exfalso; omega)) (fun h27 => ?_)
    refine o_aload_n (n := 31) rfl rfl rfl ?_
    refine of_8_13 (n := 34) hS rfl rfl ?_
    refine o_iload_n (n := 35) rfl rfl rfl ?_
    refine o_iload (n := 37) rfl rfl rfl ?_
    refine o_iadd (n := 38) rfl rfl (by omega) ?_
    refine o_iald (n := 39) (L := 24) rfl rfl rfl rfl rfl (by omega) (by omega) ?_
    refine o_aload_n (n := 40) rfl rfl rfl ?_
    refine of_8_9 (n := 43) hS rfl rfl ?_
    refine o_bipush (n := 45) rfl rfl ?_
    refine o_iload_n (n := 46) rfl rfl rfl ?_
    refine o_imul (n := 47) rfl rfl (by omega) ?_
    refine o_iload (n := 49) rfl rfl rfl ?_
    refine o_iadd (n := 50) rfl rfl (by omega) ?_
    refine o_iald (n := 51) (L := 96) rfl rfl rfl rfl rfl (by omega) (by omega) ?_
    refine o_icmp_eq (n := 54) (t := 56) rfl rfl rfl (fun h51 => ?_) (fun h51 => ?_)
    · refine o_iinc_4 (n := 59) rfl rfl rfl (by omega) ?_
      refine o_goto (t := 24) rfl rfl ?_
      exact ih (k + 1) (by omega) (by omega) (fun x h0 h1 => by
        by_cases e : x = k
        · rw [e]; exact h51
        · exact i2 x h0 (by omega))
    · refine o_iconst (n := 55) rfl rfl ?_
      refine o_zret rfl rfl (by omega) ?_
      first | (exfalso; omega; done) | exact ⟨by rw [bi_f (fun (z : at8 g i j) => h51 (z.2 k i0 (by omega)))], rfl, rfl⟩
theorem c8_isAt (hS : am_St r) (i j : Int) (hi : 0 ≤ i) (hi1 : i < 8) (hj : 0 ≤ j) (hj1 : j ≤ 24) (hl0 : 0 ≤ g 23 0 (2 * i)) (hl : g 23 0 (2 * i) ≤ 6) (hw : g 8 0 14 ≤ 24) : Rt 133 [vR 8 0, vI i, vI j] g r (some (vI (bi (at8 g i j)))) g r := by
  refine rt_of ?_
  show Ou 133 0 [vR 8 0, vI i, vI j, vN, vN] [] g r _
  refine o_aload_n (n := 1) rfl rfl rfl ?_
  refine of_8_10 (n := 4) hS rfl rfl ?_
  refine o_iconst (n := 5) rfl rfl ?_
  refine o_iload_n (n := 6) rfl rfl rfl ?_
  refine o_imul (n := 7) rfl rfl (by omega) ?_
  refine o_iald (n := 8) (L := 16) rfl rfl rfl rfl rfl (by omega) (by omega) ?_
  refine o_istore_3 (n := 9) rfl rfl rfl ?_
  refine o_iload_n (n := 10) rfl rfl rfl ?_
  refine o_iload_n (n := 11) rfl rfl rfl ?_
  refine o_iadd (n := 12) rfl rfl (by omega) ?_
  refine o_aload_n (n := 13) rfl rfl rfl ?_
  refine o_geti (n := 16) rfl rfl rfl rfl rfl ?_
  refine o_icmp_le (n := 19) (t := 21) rfl rfl rfl (fun h16 => ?_) (fun h16 => ?_)
  · refine o_iconst (n := 22) rfl rfl ?_
    refine o_istore_4 (n := 24) rfl rfl rfl ?_
    exact l8_isAt hS i j hi hi1 hj hj1 hl0 hl hw h16 (g 23 0 (2 * i)).toNat 0 (by omega) (by omega) (fun x h0 h1 => by omega)
  · refine o_iconst (n := 20) rfl rfl ?_
    refine o_zret rfl rfl (by omega) ?_
    first | (exfalso; omega; done) | exact ⟨by rw [bi_f (fun (z : at8 g i j) => by have := z.1; omega)], rfl, rfl⟩
theorem l8_placeOf (hS : am_St r) (i : Int) (hi : 0 ≤ i) (hi1 : i < 8) (hl0 : 0 ≤ g 23 0 (2 * i)) (hl : g 23 0 (2 * i) ≤ 6) (hw0 : 0 ≤ g 8 0 14) (hw : g 8 0 14 ≤ 24) : ∀ (n : Nat) (k : Int), (0 ≤ k) → (k + n = g 8 0 14) → Ou 176 2 [vR 8 0, vI i, vI k] [] g r (Rq (some (vI (fi n k (at8 g i) (-1)))) g r) := by
  intro n
  induction n with
  | zero =>
    intro k i0 i1
    refine o_iload_n (n := 3) rfl rfl rfl ?_
    refine o_aload_n (n := 4) rfl rfl rfl ?_
    refine o_geti (n := 7) rfl rfl rfl rfl rfl ?_
    refine o_icmp_ge (n := 10) (t := 27) rfl rfl rfl (fun h7 => ?_) (fun h7 => (by exfalso; omega))
    refine o_iconst (n := 28) rfl rfl ?_
    refine o_iret rfl rfl ?_
    first | (exfalso; omega; done) | exact ⟨rfl, rfl, rfl⟩
  | succ n ih =>
    intro k i0 i1
    refine o_iload_n (n := 3) rfl rfl rfl ?_
    refine o_aload_n (n := 4) rfl rfl rfl ?_
    refine o_geti (n := 7) rfl rfl rfl rfl rfl ?_
    refine o_icmp_ge (n := 10) (t := 27) rfl rfl rfl (fun h7 => (by exfalso; omega)) (fun h7 => ?_)
    refine o_aload_n (n := 11) rfl rfl rfl ?_
    refine o_iload_n (n := 12) rfl rfl rfl ?_
    refine o_iload_n (n := 13) rfl rfl rfl ?_
    refine o_invi (n := 16) rfl rfl rfl rfl rfl rfl rfl rfl rfl rfl (c8_isAt hS i k hi hi1 (by omega) (by omega) hl0 hl hw) ?_
    refine o_ifb_eq (n := 19) (t := 21) rfl rfl rfl (fun h16 => ?_) (fun h16 => ?_)
    · refine o_iinc_2 (n := 24) rfl rfl rfl (by omega) ?_
      refine o_goto (t := 2) rfl rfl ?_
      rw [fi_f h16]
      exact ih (k + 1) (by omega) (by omega)
    · refine o_iload_n (n := 20) rfl rfl rfl ?_
      refine o_iret rfl rfl ?_
      first | (exfalso; omega; done) | exact ⟨by rw [fi_t h16], rfl, rfl⟩
theorem c8_placeOf (hS : am_St r) (i : Int) (hi : 0 ≤ i) (hi1 : i < 8) (hl0 : 0 ≤ g 23 0 (2 * i)) (hl : g 23 0 (2 * i) ≤ 6) (hw0 : 0 ≤ g 8 0 14) (hw : g 8 0 14 ≤ 24) : Rt 176 [vR 8 0, vI i] g r (some (vI (fi (g 8 0 14).toNat 0 (at8 g i) (-1)))) g r := by
  refine rt_of ?_
  show Ou 176 0 [vR 8 0, vI i, vN] [] g r _
  refine o_iconst (n := 1) rfl rfl ?_
  refine o_istore_2 (n := 2) rfl rfl rfl ?_
  exact l8_placeOf hS i hi hi1 hl0 hl hw0 hw _ 0 (by omega) (by omega)
theorem l8_placesOf (hS : am_St r) (i : Int) (hi : 0 ≤ i) (hi1 : i < 8) (hl0 : 0 ≤ g 23 0 (2 * i)) (hl : g 23 0 (2 * i) ≤ 6) (hw0 : 0 ≤ g 8 0 14) (hw : g 8 0 14 ≤ 24) : ∀ (n : Nat) (k x : Int), (0 ≤ k) → (k + n = g 8 0 14) → (0 ≤ x) → (x ≤ k) → Ou 134 4 [vR 8 0, vI i, vI x, vI k] [] g r (Rq (some (vI (ctn (at8 g i) n k x))) g r) := by
  intro n
  induction n with
  | zero =>
    intro k x i0 i1 i2 i3
    refine o_iload_n (n := 5) rfl rfl rfl ?_
    refine o_aload_n (n := 6) rfl rfl rfl ?_
    refine o_geti (n := 9) rfl rfl rfl rfl rfl ?_
    refine o_icmp_ge (n := 12) (t := 35) rfl rfl rfl (fun h9 => ?_) (fun h9 => (by exfalso; omega))
    refine o_iload_n (n := 36) rfl rfl rfl ?_
    refine o_iret rfl rfl ?_
    first | (exfalso; omega; done) | exact ⟨rfl, rfl, rfl⟩
  | succ n ih =>
    intro k x i0 i1 i2 i3
    refine o_iload_n (n := 5) rfl rfl rfl ?_
    refine o_aload_n (n := 6) rfl rfl rfl ?_
    refine o_geti (n := 9) rfl rfl rfl rfl rfl ?_
    refine o_icmp_ge (n := 12) (t := 35) rfl rfl rfl (fun h9 => (by exfalso; omega)) (fun h9 => ?_)
    refine o_iload_n (n := 13) rfl rfl rfl ?_
    refine o_aload_n (n := 14) rfl rfl rfl ?_
    refine o_iload_n (n := 15) rfl rfl rfl ?_
    refine o_iload_n (n := 16) rfl rfl rfl ?_
    refine o_invi (n := 19) rfl rfl rfl rfl rfl rfl rfl rfl rfl rfl (c8_isAt hS i k hi hi1 (by omega) (by omega) hl0 hl hw) ?_
    refine o_ifb_eq (n := 22) (t := 26) rfl rfl rfl (fun h19 => ?_) (fun h19 => ?_)
    · refine o_iconst (n := 27) rfl rfl ?_
      refine o_iadd (n := 28) rfl rfl (by omega) ?_
      refine o_istore_2 (n := 29) rfl rfl rfl ?_
      refine o_iinc_3 (n := 32) rfl rfl rfl (by omega) ?_
      refine o_goto (t := 4) rfl rfl ?_
      rw [ctn_s]
      first | (rw [bi_t h19]; exact ih (k + 1) (x + 1) (by omega) (by omega) (by omega) (by omega)) | (rw [bi_f h19]; exact ih (k + 1) (x + 0) (by omega) (by omega) (by omega) (by omega))
    · refine o_iconst (n := 23) rfl rfl ?_
      refine o_goto (t := 27) rfl rfl ?_
      refine o_iadd (n := 28) rfl rfl (by omega) ?_
      refine o_istore_2 (n := 29) rfl rfl rfl ?_
      refine o_iinc_3 (n := 32) rfl rfl rfl (by omega) ?_
      refine o_goto (t := 4) rfl rfl ?_
      rw [ctn_s]
      first | (rw [bi_t h19]; exact ih (k + 1) (x + 1) (by omega) (by omega) (by omega) (by omega)) | (rw [bi_f h19]; exact ih (k + 1) (x + 0) (by omega) (by omega) (by omega) (by omega))
theorem c8_placesOf (hS : am_St r) (i : Int) (hi : 0 ≤ i) (hi1 : i < 8) (hl0 : 0 ≤ g 23 0 (2 * i)) (hl : g 23 0 (2 * i) ≤ 6) (hw0 : 0 ≤ g 8 0 14) (hw : g 8 0 14 ≤ 24) : Rt 134 [vR 8 0, vI i] g r (some (vI (ctn (at8 g i) (g 8 0 14).toNat 0 0))) g r := by
  refine rt_of ?_
  show Ou 134 0 [vR 8 0, vI i, vN, vN] [] g r _
  refine o_iconst (n := 1) rfl rfl ?_
  refine o_istore_2 (n := 2) rfl rfl rfl ?_
  refine o_iconst (n := 3) rfl rfl ?_
  refine o_istore_3 (n := 4) rfl rfl rfl ?_
  exact l8_placesOf hS i hi hi1 hl0 hl hw0 hw _ 0 0 (by omega) (by omega) (by omega) (by omega)
end LOOP
