/-! a rule judged by a reading; falling rules: both classes. Written by wip/gen/gen22.py -/
noncomputable def gd (ρ n : Int) (A B : Int → Int → Int) : Int := cif (∃ x y, 0 ≤ x ∧ x < n ∧ 0 ≤ y ∧ y < n ∧ ls8 ρ (A x y) (B x y)) 0 (cif ((ρ = 0 ∧ B 0 (n - 1) < A 0 (n - 1)) ∨ (ρ ≠ 0 ∧ ∀ x y, 0 ≤ x → x < n → 0 ≤ y → y < n → ls8 ρ (B x y) (A x y) ∨ (A x y = -1 ∧ B x y = -1))) 2 1)
noncomputable def grd (ρ n : Int) (E : Int → Int → Int → Int) (w : Int → Int) (l : Int) (w' : Int → Int) (l' : Int) : Int := cif (vo ρ n E w l.toNat) 0 (cif (vo ρ n E w' l'.toNat) 0 (gd ρ n (mt ρ n E w l.toNat) (mt ρ n E w' l'.toNat)))
def Bm (ρ n : Int) (A : Int → Int → Int) : Prop := ∀ x y, 0 ≤ x → x < n → 0 ≤ y → y < n → (ρ = 0 → 0 ≤ A x y) ∧ (ρ ≠ 0 → -1 ≤ A x y ∧ A x y ≤ 99999)
theorem mt_Bm {ρ n : Int} {E : Int → Int → Int → Int} {w : Int → Int} {len : Int} (hb : Br ρ n E) (hw : Bw len w) (h : ¬ vo ρ n E w len.toNat) : Bm ρ n (mt ρ n E w len.toNat) := fun x y a b c d => by
  have hl := hw.1
  have := mt_b hb hw len.toNat (by omega) h x y a b c d
  refine ⟨fun z => ?_, fun z => ?_⟩
  · have := this.1 z; omega
  · have := this.2 z; omega
theorem al10 {q : Int} (h : 1 ≤ q) : am_al 10 q = 6 := by
  show (if q = 0 then (24 : Int) else 6) = 6
  rw [if_neg (by omega)]
/-- all that the reference's judging may change -/
def F8 (g g' : GI) : Prop := ∀ k, k ≠ 30 → k ≠ 31 → k ≠ 32 → g' k = g k
theorem F8_refl (g : GI) : F8 g g := fun _ _ _ _ => rfl
theorem F8_9 {g g1 : GI} (a : F9 g g1) : F8 g g1 := fun k h1 h2 h3 => a k h1 h2
theorem F8_tr {g g1 g2 : GI} (a : F8 g g1) (b : F8 g1 g2) : F8 g g2 := fun k h1 h2 h3 => (b k h1 h2 h3).trans (a k h1 h2 h3)
theorem F8_set {g g1 : GI} {K : Nat} {i s v : Int} (hK : K = 30 ∨ K = 31 ∨ K = 32) (a : F8 g g1) : F8 g (gset g1 K i s v) := fun k h1 h2 h3 => (gset_kf (by omega)).trans (a k h1 h2 h3)
theorem Vr8_8 {g g' : GI} {d ρ n : Int} {E : Int → Int → Int → Int} (f : F8 g g') (h : Vr8 g d ρ n E) : Vr8 g' d ρ n E := by
  unfold Vr8
  rw [f 27 (by decide) (by decide) (by decide), f 28 (by decide) (by decide) (by decide), f 26 (by decide) (by decide) (by decide)]
  exact h
section JUDGE
variable {g r : GI} {ρ n : Int} {A B : Int → Int → Int} {E : Int → Int → Int → Int} {Q : Option AV → GI → GI → Prop}
theorem l8_gr (hS : am_St r) {d i : Int} (hr : 0 ≤ ρ ∧ ρ ≤ 2) (hn0 : 1 ≤ n) (hn1 : n ≤ 3) (hA : ∀ x y, 0 ≤ x → x < n → 0 ≤ y → y < n → g 32 0 (3 * x + y) = A x y) (hB : ∀ x y, 0 ≤ x → x < n → 0 ≤ y → y < n → g 30 0 (3 * x + y) = B x y) : ∀ (m : Nat) (k b : Int) (t : AV), (0 ≤ k) → (k + m = n * n) → (∀ j, 0 ≤ j → j < k → ¬ ls8 ρ (A (j / n) (j % n)) (B (j / n) (j % n))) → ((b = 1 ∧ ∀ j, 0 ≤ j → j < k → (ls8 ρ (B (j / n) (j % n)) (A (j / n) (j % n)) ∨ (A (j / n) (j % n) = -1 ∧ B (j / n) (j % n) = -1))) ∨ (b = 0 ∧ ∃ j, 0 ≤ j ∧ j < k ∧ ¬ (ls8 ρ (B (j / n) (j % n)) (A (j / n) (j % n)) ∨ (A (j / n) (j % n) = -1 ∧ B (j / n) (j % n) = -1)))) → Ou 139 104 [vR 8 0, vI d, vI i, vI ρ, vI n, vI b, vI k, t] [] g r (Rq (some (vI (gd ρ n A B))) g r) := by
  intro m
  induction m with
  | zero =>
    intro k b t i0 i1 i2 i3
    have hnn := nn_b hn0 hn1
    have hk : k = n * n := by omega
    subst hk
    have hno : ¬ ∃ x y, 0 ≤ x ∧ x < n ∧ 0 ≤ y ∧ y < n ∧ ls8 ρ (A x y) (B x y) := by
      rintro ⟨x, y, a0, a1, b0, b1, z⟩
      have hx := dv_x hn0 hn1 a0 a1 b0 b1
      have := i2 (n * x + y) hx.1 hx.2.1
      rw [hx.2.2.1, hx.2.2.2] at this
      exact this z
    have hA0 := hA 0 (n - 1) (by omega) (by omega) (by omega) (by omega)
    have hB0 := hB 0 (n - 1) (by omega) (by omega) (by omega) (by omega)
    rw [show 3 * 0 + (n - 1) = n - 1 by omega] at hA0 hB0
    refine o_iload (n := 106) rfl rfl rfl ?_
    refine o_iload (n := 108) rfl rfl rfl ?_
    refine o_iload (n := 110) rfl rfl rfl ?_
    refine o_imul (n := 111) rfl rfl (by omega) ?_
    refine o_icmp_ge (n := 114) (t := 219) rfl rfl rfl (fun h111 => ?_) (fun h111 => (by exfalso; omega))
    refine o_iload_n (n := 220) rfl rfl rfl ?_
    refine o_if_ne (n := 223) (t := 253) rfl rfl rfl (fun h220 => ?_) (fun h220 => ?_)
    · refine o_iload (n := 255) rfl rfl rfl ?_
      refine o_istore_6 (n := 257) rfl rfl rfl ?_
      refine o_iload (n := 259) rfl rfl rfl ?_
      refine o_if_eq (n := 262) (t := 266) rfl rfl rfl (fun h259 => ?_) (fun h259 => ?_)
      · refine o_iconst (n := 267) rfl rfl ?_
        refine o_iret rfl rfl ?_
        first
          | (exfalso; omega; done)
          | (have hz : ρ = 0 ∧ B 0 (n - 1) < A 0 (n - 1) := by omega
             refine ⟨?_, rfl, rfl⟩
             unfold gd; rw [cif_f hno, cif_t (Or.inl hz)])
          | (have hz : ρ = 0 ∧ ¬ B 0 (n - 1) < A 0 (n - 1) := by omega
             refine ⟨?_, rfl, rfl⟩
             unfold gd; rw [cif_f hno, cif_f (fun z => by rcases z with z | z <;> omega)])
          | (have hb1 : b ≠ 0 := by omega
             rcases i3 with ⟨i3, i4⟩ | ⟨i3, _⟩
             · have hz : ρ ≠ 0 ∧ ∀ x y, 0 ≤ x → x < n → 0 ≤ y → y < n → ls8 ρ (B x y) (A x y) ∨ (A x y = -1 ∧ B x y = -1) := by
                 refine ⟨by omega, fun x y a0 a1 b0 b1 => ?_⟩
                 have hx := dv_x hn0 hn1 a0 a1 b0 b1
                 have := i4 (n * x + y) hx.1 hx.2.1
                 rw [hx.2.2.1, hx.2.2.2] at this
                 exact this
               refine ⟨?_, rfl, rfl⟩
               unfold gd
               rw [cif_f hno, cif_t (Or.inr hz)]
             · exfalso; omega)
          | (have hb1 : b = 0 := by omega
             rcases i3 with ⟨i3, i4⟩ | ⟨i3, j, a, b, z⟩
             · exfalso; omega
             · have hj := dv hn0 hn1 a b
               have hz : ¬ ((ρ = 0 ∧ B 0 (n - 1) < A 0 (n - 1)) ∨ (ρ ≠ 0 ∧ ∀ x y, 0 ≤ x → x < n → 0 ≤ y → y < n → ls8 ρ (B x y) (A x y) ∨ (A x y = -1 ∧ B x y = -1))) := by
                 intro zz
                 rcases zz with zz | zz
                 · omega
                 · exact z (zz.2 (j / n) (j % n) hj.1 hj.2.1 hj.2.2.1 hj.2.2.2)
               refine ⟨?_, rfl, rfl⟩
               unfold gd
               rw [cif_f hno, cif_f hz])
      · refine o_iconst (n := 263) rfl rfl ?_
        refine o_goto (t := 267) rfl rfl ?_
        refine o_iret rfl rfl ?_
        first
          | (exfalso; omega; done)
          | (have hz : ρ = 0 ∧ B 0 (n - 1) < A 0 (n - 1) := by omega
             refine ⟨?_, rfl, rfl⟩
             unfold gd; rw [cif_f hno, cif_t (Or.inl hz)])
          | (have hz : ρ = 0 ∧ ¬ B 0 (n - 1) < A 0 (n - 1) := by omega
             refine ⟨?_, rfl, rfl⟩
             unfold gd; rw [cif_f hno, cif_f (fun z => by rcases z with z | z <;> omega)])
          | (have hb1 : b ≠ 0 := by omega
             rcases i3 with ⟨i3, i4⟩ | ⟨i3, _⟩
             · have hz : ρ ≠ 0 ∧ ∀ x y, 0 ≤ x → x < n → 0 ≤ y → y < n → ls8 ρ (B x y) (A x y) ∨ (A x y = -1 ∧ B x y = -1) := by
                 refine ⟨by omega, fun x y a0 a1 b0 b1 => ?_⟩
                 have hx := dv_x hn0 hn1 a0 a1 b0 b1
                 have := i4 (n * x + y) hx.1 hx.2.1
                 rw [hx.2.2.1, hx.2.2.2] at this
                 exact this
               refine ⟨?_, rfl, rfl⟩
               unfold gd
               rw [cif_f hno, cif_t (Or.inr hz)]
             · exfalso; omega)
          | (have hb1 : b = 0 := by omega
             rcases i3 with ⟨i3, i4⟩ | ⟨i3, j, a, b, z⟩
             · exfalso; omega
             · have hj := dv hn0 hn1 a b
               have hz : ¬ ((ρ = 0 ∧ B 0 (n - 1) < A 0 (n - 1)) ∨ (ρ ≠ 0 ∧ ∀ x y, 0 ≤ x → x < n → 0 ≤ y → y < n → ls8 ρ (B x y) (A x y) ∨ (A x y = -1 ∧ B x y = -1))) := by
                 intro zz
                 rcases zz with zz | zz
                 · omega
                 · exact z (zz.2 (j / n) (j % n) hj.1 hj.2.1 hj.2.2.1 hj.2.2.2)
               refine ⟨?_, rfl, rfl⟩
               unfold gd
               rw [cif_f hno, cif_f hz])
    · refine o_aload_n (n := 224) rfl rfl rfl ?_
      refine of_8_23 (n := 227) hS rfl rfl ?_
      refine o_iload (n := 229) rfl rfl rfl ?_
      refine o_iconst (n := 230) rfl rfl ?_
      refine o_isub (n := 231) rfl rfl (by omega) ?_
      refine o_lald (n := 232) (L := 9) rfl rfl rfl rfl rfl (by omega) (by omega) ?_
      refine o_aload_n (n := 233) rfl rfl rfl ?_
      refine of_8_21 (n := 236) hS rfl rfl ?_
      refine o_iload (n := 238) rfl rfl rfl ?_
      refine o_iconst (n := 239) rfl rfl ?_
      refine o_isub (n := 240) rfl rfl (by omega) ?_
      refine o_lald (n := 241) (L := 9) rfl rfl rfl rfl rfl (by omega) (by omega) ?_
      refine o_lcmp_le (n := 245) (t := 249) rfl rfl rfl rfl (fun h241 => ?_) (fun h241 => ?_)
      · refine o_iconst (n := 250) rfl rfl ?_
        refine o_goto (t := 255) rfl rfl ?_
        refine o_istore_6 (n := 257) rfl rfl rfl ?_
        refine o_iload (n := 259) rfl rfl rfl ?_
        refine o_if_eq (n := 262) (t := 266) rfl rfl rfl (fun h259 => ?_) (fun h259 => ?_)
        · refine o_iconst (n := 267) rfl rfl ?_
          refine o_iret rfl rfl ?_
          first
            | (exfalso; omega; done)
            | (have hz : ρ = 0 ∧ B 0 (n - 1) < A 0 (n - 1) := by omega
               refine ⟨?_, rfl, rfl⟩
               unfold gd; rw [cif_f hno, cif_t (Or.inl hz)])
            | (have hz : ρ = 0 ∧ ¬ B 0 (n - 1) < A 0 (n - 1) := by omega
               refine ⟨?_, rfl, rfl⟩
               unfold gd; rw [cif_f hno, cif_f (fun z => by rcases z with z | z <;> omega)])
            | (have hb1 : b ≠ 0 := by omega
               rcases i3 with ⟨i3, i4⟩ | ⟨i3, _⟩
               · have hz : ρ ≠ 0 ∧ ∀ x y, 0 ≤ x → x < n → 0 ≤ y → y < n → ls8 ρ (B x y) (A x y) ∨ (A x y = -1 ∧ B x y = -1) := by
                   refine ⟨by omega, fun x y a0 a1 b0 b1 => ?_⟩
                   have hx := dv_x hn0 hn1 a0 a1 b0 b1
                   have := i4 (n * x + y) hx.1 hx.2.1
                   rw [hx.2.2.1, hx.2.2.2] at this
                   exact this
                 refine ⟨?_, rfl, rfl⟩
                 unfold gd
                 rw [cif_f hno, cif_t (Or.inr hz)]
               · exfalso; omega)
            | (have hb1 : b = 0 := by omega
               rcases i3 with ⟨i3, i4⟩ | ⟨i3, j, a, b, z⟩
               · exfalso; omega
               · have hj := dv hn0 hn1 a b
                 have hz : ¬ ((ρ = 0 ∧ B 0 (n - 1) < A 0 (n - 1)) ∨ (ρ ≠ 0 ∧ ∀ x y, 0 ≤ x → x < n → 0 ≤ y → y < n → ls8 ρ (B x y) (A x y) ∨ (A x y = -1 ∧ B x y = -1))) := by
                   intro zz
                   rcases zz with zz | zz
                   · omega
                   · exact z (zz.2 (j / n) (j % n) hj.1 hj.2.1 hj.2.2.1 hj.2.2.2)
                 refine ⟨?_, rfl, rfl⟩
                 unfold gd
                 rw [cif_f hno, cif_f hz])
        · refine o_iconst (n := 263) rfl rfl ?_
          refine o_goto (t := 267) rfl rfl ?_
          refine o_iret rfl rfl ?_
          first
            | (exfalso; omega; done)
            | (have hz : ρ = 0 ∧ B 0 (n - 1) < A 0 (n - 1) := by omega
               refine ⟨?_, rfl, rfl⟩
               unfold gd; rw [cif_f hno, cif_t (Or.inl hz)])
            | (have hz : ρ = 0 ∧ ¬ B 0 (n - 1) < A 0 (n - 1) := by omega
               refine ⟨?_, rfl, rfl⟩
               unfold gd; rw [cif_f hno, cif_f (fun z => by rcases z with z | z <;> omega)])
            | (have hb1 : b ≠ 0 := by omega
               rcases i3 with ⟨i3, i4⟩ | ⟨i3, _⟩
               · have hz : ρ ≠ 0 ∧ ∀ x y, 0 ≤ x → x < n → 0 ≤ y → y < n → ls8 ρ (B x y) (A x y) ∨ (A x y = -1 ∧ B x y = -1) := by
                   refine ⟨by omega, fun x y a0 a1 b0 b1 => ?_⟩
                   have hx := dv_x hn0 hn1 a0 a1 b0 b1
                   have := i4 (n * x + y) hx.1 hx.2.1
                   rw [hx.2.2.1, hx.2.2.2] at this
                   exact this
                 refine ⟨?_, rfl, rfl⟩
                 unfold gd
                 rw [cif_f hno, cif_t (Or.inr hz)]
               · exfalso; omega)
            | (have hb1 : b = 0 := by omega
               rcases i3 with ⟨i3, i4⟩ | ⟨i3, j, a, b, z⟩
               · exfalso; omega
               · have hj := dv hn0 hn1 a b
                 have hz : ¬ ((ρ = 0 ∧ B 0 (n - 1) < A 0 (n - 1)) ∨ (ρ ≠ 0 ∧ ∀ x y, 0 ≤ x → x < n → 0 ≤ y → y < n → ls8 ρ (B x y) (A x y) ∨ (A x y = -1 ∧ B x y = -1))) := by
                   intro zz
                   rcases zz with zz | zz
                   · omega
                   · exact z (zz.2 (j / n) (j % n) hj.1 hj.2.1 hj.2.2.1 hj.2.2.2)
                 refine ⟨?_, rfl, rfl⟩
                 unfold gd
                 rw [cif_f hno, cif_f hz])
      · refine o_iconst (n := 246) rfl rfl ?_
        refine o_goto (t := 255) rfl rfl ?_
        refine o_istore_6 (n := 257) rfl rfl rfl ?_
        refine o_iload (n := 259) rfl rfl rfl ?_
        refine o_if_eq (n := 262) (t := 266) rfl rfl rfl (fun h259 => ?_) (fun h259 => ?_)
        · refine o_iconst (n := 267) rfl rfl ?_
          refine o_iret rfl rfl ?_
          first
            | (exfalso; omega; done)
            | (have hz : ρ = 0 ∧ B 0 (n - 1) < A 0 (n - 1) := by omega
               refine ⟨?_, rfl, rfl⟩
               unfold gd; rw [cif_f hno, cif_t (Or.inl hz)])
            | (have hz : ρ = 0 ∧ ¬ B 0 (n - 1) < A 0 (n - 1) := by omega
               refine ⟨?_, rfl, rfl⟩
               unfold gd; rw [cif_f hno, cif_f (fun z => by rcases z with z | z <;> omega)])
            | (have hb1 : b ≠ 0 := by omega
               rcases i3 with ⟨i3, i4⟩ | ⟨i3, _⟩
               · have hz : ρ ≠ 0 ∧ ∀ x y, 0 ≤ x → x < n → 0 ≤ y → y < n → ls8 ρ (B x y) (A x y) ∨ (A x y = -1 ∧ B x y = -1) := by
                   refine ⟨by omega, fun x y a0 a1 b0 b1 => ?_⟩
                   have hx := dv_x hn0 hn1 a0 a1 b0 b1
                   have := i4 (n * x + y) hx.1 hx.2.1
                   rw [hx.2.2.1, hx.2.2.2] at this
                   exact this
                 refine ⟨?_, rfl, rfl⟩
                 unfold gd
                 rw [cif_f hno, cif_t (Or.inr hz)]
               · exfalso; omega)
            | (have hb1 : b = 0 := by omega
               rcases i3 with ⟨i3, i4⟩ | ⟨i3, j, a, b, z⟩
               · exfalso; omega
               · have hj := dv hn0 hn1 a b
                 have hz : ¬ ((ρ = 0 ∧ B 0 (n - 1) < A 0 (n - 1)) ∨ (ρ ≠ 0 ∧ ∀ x y, 0 ≤ x → x < n → 0 ≤ y → y < n → ls8 ρ (B x y) (A x y) ∨ (A x y = -1 ∧ B x y = -1))) := by
                   intro zz
                   rcases zz with zz | zz
                   · omega
                   · exact z (zz.2 (j / n) (j % n) hj.1 hj.2.1 hj.2.2.1 hj.2.2.2)
                 refine ⟨?_, rfl, rfl⟩
                 unfold gd
                 rw [cif_f hno, cif_f hz])
        · refine o_iconst (n := 263) rfl rfl ?_
          refine o_goto (t := 267) rfl rfl ?_
          refine o_iret rfl rfl ?_
          first
            | (exfalso; omega; done)
            | (have hz : ρ = 0 ∧ B 0 (n - 1) < A 0 (n - 1) := by omega
               refine ⟨?_, rfl, rfl⟩
               unfold gd; rw [cif_f hno, cif_t (Or.inl hz)])
            | (have hz : ρ = 0 ∧ ¬ B 0 (n - 1) < A 0 (n - 1) := by omega
               refine ⟨?_, rfl, rfl⟩
               unfold gd; rw [cif_f hno, cif_f (fun z => by rcases z with z | z <;> omega)])
            | (have hb1 : b ≠ 0 := by omega
               rcases i3 with ⟨i3, i4⟩ | ⟨i3, _⟩
               · have hz : ρ ≠ 0 ∧ ∀ x y, 0 ≤ x → x < n → 0 ≤ y → y < n → ls8 ρ (B x y) (A x y) ∨ (A x y = -1 ∧ B x y = -1) := by
                   refine ⟨by omega, fun x y a0 a1 b0 b1 => ?_⟩
                   have hx := dv_x hn0 hn1 a0 a1 b0 b1
                   have := i4 (n * x + y) hx.1 hx.2.1
                   rw [hx.2.2.1, hx.2.2.2] at this
                   exact this
                 refine ⟨?_, rfl, rfl⟩
                 unfold gd
                 rw [cif_f hno, cif_t (Or.inr hz)]
               · exfalso; omega)
            | (have hb1 : b = 0 := by omega
               rcases i3 with ⟨i3, i4⟩ | ⟨i3, j, a, b, z⟩
               · exfalso; omega
               · have hj := dv hn0 hn1 a b
                 have hz : ¬ ((ρ = 0 ∧ B 0 (n - 1) < A 0 (n - 1)) ∨ (ρ ≠ 0 ∧ ∀ x y, 0 ≤ x → x < n → 0 ≤ y → y < n → ls8 ρ (B x y) (A x y) ∨ (A x y = -1 ∧ B x y = -1))) := by
                   intro zz
                   rcases zz with zz | zz
                   · omega
                   · exact z (zz.2 (j / n) (j % n) hj.1 hj.2.1 hj.2.2.1 hj.2.2.2)
                 refine ⟨?_, rfl, rfl⟩
                 unfold gd
                 rw [cif_f hno, cif_f hz])
  | succ m ih =>
    intro k b t i0 i1 i2 i3
    have hnn := nn_b hn0 hn1
    have hd0 := dv hn0 hn1 i0 (by omega)
    have hA0 := hA (k / n) (k % n) hd0.1 hd0.2.1 hd0.2.2.1 hd0.2.2.2
    have hB0 := hB (k / n) (k % n) hd0.1 hd0.2.1 hd0.2.2.1 hd0.2.2.2
    refine o_iload (n := 106) rfl rfl rfl ?_
    refine o_iload (n := 108) rfl rfl rfl ?_
    refine o_iload (n := 110) rfl rfl rfl ?_
    refine o_imul (n := 111) rfl rfl (by omega) ?_
    refine o_icmp_ge (n := 114) (t := 219) rfl rfl rfl (fun h111 => (by exfalso; omega)) (fun h111 => ?_)
    refine o_iconst (n := 115) rfl rfl ?_
    refine o_iload (n := 117) rfl rfl rfl ?_
    refine o_iload (n := 119) rfl rfl rfl ?_
    refine o_idiv (n := 120) rfl rfl (by omega) ?_
    refine o_imul (n := 121) rfl rfl (by omega) ?_
    refine o_iload (n := 123) rfl rfl rfl ?_
    refine o_iload (n := 125) rfl rfl rfl ?_
    refine o_irem (n := 126) rfl rfl (by omega) ?_
    refine o_iadd (n := 127) rfl rfl (by omega) ?_
    refine o_istore_7 (n := 129) rfl rfl rfl ?_
    refine o_iload_n (n := 130) rfl rfl rfl ?_
    refine o_aload_n (n := 131) rfl rfl rfl ?_
    refine of_8_23 (n := 134) hS rfl rfl ?_
    refine o_iload (n := 136) rfl rfl rfl ?_
    refine o_lald (n := 137) (L := 9) rfl rfl rfl rfl rfl (by omega) (by omega) ?_
    refine o_aload_n (n := 138) rfl rfl rfl ?_
    refine of_8_21 (n := 141) hS rfl rfl ?_
    refine o_iload (n := 143) rfl rfl rfl ?_
    refine o_lald (n := 144) (L := 9) rfl rfl rfl rfl rfl (by omega) (by omega) ?_
    refine o_invsi (n := 147) rfl rfl rfl rfl rfl rfl (c8_isLess _ _ _) ?_
    rw [hA0, hB0]
    refine o_ifb_eq (n := 150) (t := 152) rfl rfl rfl (fun h147 => ?_) (fun h147 => ?_)
    · refine o_iload (n := 154) rfl rfl rfl ?_
      refine o_if_eq (n := 157) (t := 210) rfl rfl rfl (fun h154 => ?_) (fun h154 => ?_)
      · refine o_iconst (n := 211) rfl rfl ?_
        refine o_istore_5 (n := 213) rfl rfl rfl ?_
        refine o_iinc_6 (n := 216) rfl rfl rfl (by omega) ?_
        refine o_goto (t := 104) rfl rfl ?_
        refine ih (k + 1) _ _ (by omega) (by omega) (fun j a b => ?_) ?_
        · by_cases e : j = k
          · subst e; exact h147
          · exact i2 j a (by omega)
        · first
            | (rcases i3 with ⟨i3, i4⟩ | ⟨i3, _⟩
               · refine Or.inl ⟨rfl, fun j a b => ?_⟩
                 by_cases e : j = k
                 · subst e
                   first | exact Or.inl h175 | exact Or.inr ⟨by omega, by omega⟩
                 · exact i4 j a (by omega)
               · exfalso; omega)
            | (rcases i3 with ⟨i3, i4⟩ | ⟨i3, j, a, b, z⟩
               · first
                   | (exfalso; omega; done)
                   | exact Or.inr ⟨rfl, k, i0, by omega, fun z => by rcases z with z | z <;> first | exact h175 z | omega⟩
               · exact Or.inr ⟨rfl, j, a, by omega, z⟩)
      · refine o_iload_n (n := 158) rfl rfl rfl ?_
        refine o_aload_n (n := 159) rfl rfl rfl ?_
        refine of_8_21 (n := 162) hS rfl rfl ?_
        refine o_iload (n := 164) rfl rfl rfl ?_
        refine o_lald (n := 165) (L := 9) rfl rfl rfl rfl rfl (by omega) (by omega) ?_
        refine o_aload_n (n := 166) rfl rfl rfl ?_
        refine of_8_23 (n := 169) hS rfl rfl ?_
        refine o_iload (n := 171) rfl rfl rfl ?_
        refine o_lald (n := 172) (L := 9) rfl rfl rfl rfl rfl (by omega) (by omega) ?_
        refine o_invsi (n := 175) rfl rfl rfl rfl rfl rfl (c8_isLess _ _ _) ?_
        rw [hA0, hB0]
        refine o_ifb_ne (n := 178) (t := 206) rfl rfl rfl (fun h175 => ?_) (fun h175 => ?_)
        · refine o_iconst (n := 207) rfl rfl ?_
          refine o_goto (t := 211) rfl rfl ?_
          refine o_istore_5 (n := 213) rfl rfl rfl ?_
          refine o_iinc_6 (n := 216) rfl rfl rfl (by omega) ?_
          refine o_goto (t := 104) rfl rfl ?_
          refine ih (k + 1) _ _ (by omega) (by omega) (fun j a b => ?_) ?_
          · by_cases e : j = k
            · subst e; exact h147
            · exact i2 j a (by omega)
          · first
              | (rcases i3 with ⟨i3, i4⟩ | ⟨i3, _⟩
                 · refine Or.inl ⟨rfl, fun j a b => ?_⟩
                   by_cases e : j = k
                   · subst e
                     first | exact Or.inl h175 | exact Or.inr ⟨by omega, by omega⟩
                   · exact i4 j a (by omega)
                 · exfalso; omega)
              | (rcases i3 with ⟨i3, i4⟩ | ⟨i3, j, a, b, z⟩
                 · first
                     | (exfalso; omega; done)
                     | exact Or.inr ⟨rfl, k, i0, by omega, fun z => by rcases z with z | z <;> first | exact h175 z | omega⟩
                 · exact Or.inr ⟨rfl, j, a, by omega, z⟩)
        · refine o_aload_n (n := 179) rfl rfl rfl ?_
          refine of_8_23 (n := 182) hS rfl rfl ?_
          refine o_iload (n := 184) rfl rfl rfl ?_
          refine o_lald (n := 185) (L := 9) rfl rfl rfl rfl rfl (by omega) (by omega) ?_
          refine o_ldc2_w (n := 188) rfl rfl ?_
          refine o_lcmp_ne (n := 192) (t := 210) rfl rfl rfl rfl (fun h188 => ?_) (fun h188 => ?_)
          · refine o_iconst (n := 211) rfl rfl ?_
            refine o_istore_5 (n := 213) rfl rfl rfl ?_
            refine o_iinc_6 (n := 216) rfl rfl rfl (by omega) ?_
            refine o_goto (t := 104) rfl rfl ?_
            refine ih (k + 1) _ _ (by omega) (by omega) (fun j a b => ?_) ?_
            · by_cases e : j = k
              · subst e; exact h147
              · exact i2 j a (by omega)
            · first
                | (rcases i3 with ⟨i3, i4⟩ | ⟨i3, _⟩
                   · refine Or.inl ⟨rfl, fun j a b => ?_⟩
                     by_cases e : j = k
                     · subst e
                       first | exact Or.inl h175 | exact Or.inr ⟨by omega, by omega⟩
                     · exact i4 j a (by omega)
                   · exfalso; omega)
                | (rcases i3 with ⟨i3, i4⟩ | ⟨i3, j, a, b, z⟩
                   · first
                       | (exfalso; omega; done)
                       | exact Or.inr ⟨rfl, k, i0, by omega, fun z => by rcases z with z | z <;> first | exact h175 z | omega⟩
                   · exact Or.inr ⟨rfl, j, a, by omega, z⟩)
          · refine o_aload_n (n := 193) rfl rfl rfl ?_
            refine of_8_21 (n := 196) hS rfl rfl ?_
            refine o_iload (n := 198) rfl rfl rfl ?_
            refine o_lald (n := 199) (L := 9) rfl rfl rfl rfl rfl (by omega) (by omega) ?_
            refine o_ldc2_w (n := 202) rfl rfl ?_
            refine o_lcmp_ne (n := 206) (t := 210) rfl rfl rfl rfl (fun h202 => ?_) (fun h202 => ?_)
            · refine o_iconst (n := 211) rfl rfl ?_
              refine o_istore_5 (n := 213) rfl rfl rfl ?_
              refine o_iinc_6 (n := 216) rfl rfl rfl (by omega) ?_
              refine o_goto (t := 104) rfl rfl ?_
              refine ih (k + 1) _ _ (by omega) (by omega) (fun j a b => ?_) ?_
              · by_cases e : j = k
                · subst e; exact h147
                · exact i2 j a (by omega)
              · first
                  | (rcases i3 with ⟨i3, i4⟩ | ⟨i3, _⟩
                     · refine Or.inl ⟨rfl, fun j a b => ?_⟩
                       by_cases e : j = k
                       · subst e
                         first | exact Or.inl h175 | exact Or.inr ⟨by omega, by omega⟩
                       · exact i4 j a (by omega)
                     · exfalso; omega)
                  | (rcases i3 with ⟨i3, i4⟩ | ⟨i3, j, a, b, z⟩
                     · first
                         | (exfalso; omega; done)
                         | exact Or.inr ⟨rfl, k, i0, by omega, fun z => by rcases z with z | z <;> first | exact h175 z | omega⟩
                     · exact Or.inr ⟨rfl, j, a, by omega, z⟩)
            · refine o_iconst (n := 207) rfl rfl ?_
              refine o_goto (t := 211) rfl rfl ?_
              refine o_istore_5 (n := 213) rfl rfl rfl ?_
              refine o_iinc_6 (n := 216) rfl rfl rfl (by omega) ?_
              refine o_goto (t := 104) rfl rfl ?_
              refine ih (k + 1) _ _ (by omega) (by omega) (fun j a b => ?_) ?_
              · by_cases e : j = k
                · subst e; exact h147
                · exact i2 j a (by omega)
              · first
                  | (rcases i3 with ⟨i3, i4⟩ | ⟨i3, _⟩
                     · refine Or.inl ⟨rfl, fun j a b => ?_⟩
                       by_cases e : j = k
                       · subst e
                         first | exact Or.inl h175 | exact Or.inr ⟨by omega, by omega⟩
                       · exact i4 j a (by omega)
                     · exfalso; omega)
                  | (rcases i3 with ⟨i3, i4⟩ | ⟨i3, j, a, b, z⟩
                     · first
                         | (exfalso; omega; done)
                         | exact Or.inr ⟨rfl, k, i0, by omega, fun z => by rcases z with z | z <;> first | exact h175 z | omega⟩
                     · exact Or.inr ⟨rfl, j, a, by omega, z⟩)
    · refine o_iconst (n := 151) rfl rfl ?_
      refine o_iret rfl rfl ?_
      first | (exfalso; omega; done) | exact ⟨by unfold gd; rw [cif_t ⟨k / n, k % n, hd0.1, hd0.2.1, hd0.2.2.1, hd0.2.2.2, h147⟩], rfl, rfl⟩
def Vu8 (g : GI) (R : Int) (L : Int → Int → Int) (W : Int → Int → Int → Int) : Prop := g 8 0 8 = R ∧ ∀ i, 0 ≤ i → i < R → (g 23 0 (2 * i) = L i 0 ∧ g 23 0 (2 * i + 1) = L i 1) ∧ Vw g 22 (12 * i) (L i 0) (W i 0) ∧ Vw g 22 (12 * i + 6) (L i 1) (W i 1)
def Vu7 (g r : GI) (R : Int) (L : Int → Int → Int) (W : Int → Int → Int → Int) : Prop := g 7 0 10 = R ∧ ∀ i, 0 ≤ i → i < R → Vw7 g (1 + 2 * r 14 0 i) (L i 0) (W i 0) ∧ Vw7 g (2 + 2 * r 14 0 i) (L i 1) (W i 1)
def Bu (R : Int) (L : Int → Int → Int) (W : Int → Int → Int → Int) : Prop := (0 ≤ R ∧ R ≤ 8) ∧ ∀ i, 0 ≤ i → i < R → (Bw (L i 0) (W i 0) ∧ L i 0 ≤ 6) ∧ (Bw (L i 1) (W i 1) ∧ L i 1 ≤ 6)
theorem Vu8_F {g g' : GI} {R : Int} {L : Int → Int → Int} {W : Int → Int → Int → Int} (f : F8 g g') (h : Vu8 g R L W) : Vu8 g' R L W := by
  unfold Vu8 Vw
  rw [f 8 (by decide) (by decide) (by decide), f 23 (by decide) (by decide) (by decide), f 22 (by decide) (by decide) (by decide)]
  exact h
variable {R : Int} {L : Int → Int → Int} {W : Int → Int → Int → Int}
noncomputable def gr (ρ n : Int) (E : Int → Int → Int → Int) (L : Int → Int → Int) (W : Int → Int → Int → Int) (i : Int) : Int := grd ρ n E (W i 0) (L i 0) (W i 1) (L i 1)
theorem l8_lefts (hS : am_St r) {d i : Int} : ∀ (m : Nat) (k : Int) (g1 : GI), (0 ≤ k) → (k + m = 9) → (F8 g g1) → (g1 30 = g 30) → (∀ j, 0 ≤ j → j < k → g1 32 0 j = g 30 0 j) → (∀ k g1, F8 g g1 → (∀ j, 0 ≤ j → j < 9 → g1 32 0 j = g 30 0 j) → Ou 139 52 [vR 8 0, vI d, vI i, vI k, vN, vN, vN, vN] [] g1 r Q) → Ou 139 28 [vR 8 0, vI d, vI i, vI k, vN, vN, vN, vN] [] g1 r Q := by
  intro m
  induction m with
  | zero =>
    intro k g1 i0 i1 f i2 i3 hQ
    refine o_iload_n (n := 29) rfl rfl rfl ?_
    refine o_bipush (n := 31) rfl rfl ?_
    refine o_icmp_ge (n := 34) (t := 52) rfl rfl rfl (fun h31 => ?_) (fun h31 => (by exfalso; omega))
    exact hQ k g1 f (fun j a b => i3 j a (by omega))
  | succ m ih =>
    intro k g1 i0 i1 f i2 i3 hQ
    refine o_iload_n (n := 29) rfl rfl rfl ?_
    refine o_bipush (n := 31) rfl rfl ?_
    refine o_icmp_ge (n := 34) (t := 52) rfl rfl rfl (fun h31 => (by exfalso; omega)) (fun h31 => ?_)
    refine o_aload_n (n := 35) rfl rfl rfl ?_
    refine of_8_23 (n := 38) hS rfl rfl ?_
    refine o_iload_n (n := 39) rfl rfl rfl ?_
    refine o_aload_n (n := 40) rfl rfl rfl ?_
    refine of_8_21 (n := 43) hS rfl rfl ?_
    refine o_iload_n (n := 44) rfl rfl rfl ?_
    refine o_lald (n := 45) (L := 9) rfl rfl rfl rfl rfl (by omega) (by omega) ?_
    refine o_last (n := 46) (L := 9) rfl rfl rfl rfl rfl (by omega) (by omega) ?_
    refine o_iinc_3 (n := 49) rfl rfl rfl (by omega) ?_
    refine o_goto (t := 28) rfl rfl ?_
    refine ih (k + 1) _ (by omega) (by omega) (F8_set (Or.inr (Or.inr rfl)) f) ((gset_kf (by decide)).trans i2) (fun j a b => ?_) hQ
    by_cases e : j = k
    · subst e; rw [gset_at, i2]
    · rw [gset_s e]; exact i3 j a (by omega)
theorem c8_grade (hS : am_St r) {d i : Int} (hd : 0 ≤ d) (hd1 : d < 9) (hb : Br ρ n E) (hV : Vr8 g d ρ n E) (hu : Bu R L W) (hU : Vu8 g R L W) (hi : 0 ≤ i) (hi1 : i < R) : Ou 139 0 (am_ini 139 [vR 8 0, vI d, vI i]) [] g r (fun v g1 r1 => v = some (vI (gr ρ n E L W i)) ∧ r1 = r ∧ F8 g g1) := by
  show Ou 139 0 [vR 8 0, vI d, vI i, vN, vN, vN, vN, vN] [] g r _
  have hl := hu.1
  have hbn := hb.2.1
  have hui := hu.2 i hi hi1
  have hl2 := hui.1.1.1
  have hl3 := hui.2.1.1
  refine o_aload_n (n := 1) rfl rfl rfl ?_
  refine o_iload_n (n := 2) rfl rfl rfl ?_
  refine o_aload_n (n := 3) rfl rfl rfl ?_
  refine of_8_9 (n := 6) hS rfl rfl ?_
  refine o_bipush (n := 8) rfl rfl ?_
  refine o_iload_n (n := 9) rfl rfl rfl ?_
  refine o_imul (n := 10) rfl rfl (by omega) ?_
  refine o_aload_n (n := 11) rfl rfl rfl ?_
  refine of_8_10 (n := 14) hS rfl rfl ?_
  refine o_iconst (n := 15) rfl rfl ?_
  refine o_iload_n (n := 16) rfl rfl rfl ?_
  refine o_imul (n := 17) rfl rfl (by omega) ?_
  refine o_iald (n := 18) (L := 16) rfl rfl rfl rfl rfl (by omega) (by omega) ?_
  obtain ⟨⟨el0, el1⟩, hW0, hW1⟩ := hU.2 i hi hi1
  rw [el0]
  obtain ⟨v1, g1, r1, hc, hr1, f1, hv1, hm1⟩ := rt_ex (show Ou 137 0 (am_ini 137 [vR 8 0, vI d, vR 22 0, vI (12 * i), vI (L i 0)]) [] g r _ from c8_reckons_s hS hd hd1 hb hui.1.1 hV hW0 (by omega) (by omega))
  subst hv1
  subst hr1
  refine o_invi (n := 21) rfl rfl rfl rfl rfl rfl rfl rfl rfl rfl (hc) ?_
  refine o_ifb_ne (n := 24) (t := 26) rfl rfl rfl (fun h21 => ?_) (fun h21 => ?_)
  · refine o_iconst (n := 27) rfl rfl ?_
    refine o_istore_3 (n := 28) rfl rfl rfl ?_
    refine l8_lefts hS (g := g1) 9 0 g1 (by omega) (by omega) (F8_refl g1) rfl (fun j a b => by omega) (fun k g2 f2 hl2 => ?_)
    refine o_aload_n (n := 53) rfl rfl rfl ?_
    refine o_iload_n (n := 54) rfl rfl rfl ?_
    refine o_aload_n (n := 55) rfl rfl rfl ?_
    refine of_8_9 (n := 58) hS rfl rfl ?_
    refine o_bipush (n := 60) rfl rfl ?_
    refine o_iload_n (n := 61) rfl rfl rfl ?_
    refine o_imul (n := 62) rfl rfl (by omega) ?_
    refine o_bipush (n := 64) rfl rfl ?_
    refine o_iadd (n := 65) rfl rfl (by omega) ?_
    refine o_aload_n (n := 66) rfl rfl rfl ?_
    refine of_8_10 (n := 69) hS rfl rfl ?_
    refine o_iconst (n := 70) rfl rfl ?_
    refine o_iload_n (n := 71) rfl rfl rfl ?_
    refine o_imul (n := 72) rfl rfl (by omega) ?_
    refine o_iconst (n := 73) rfl rfl ?_
    refine o_iadd (n := 74) rfl rfl (by omega) ?_
    refine o_iald (n := 75) (L := 16) rfl rfl rfl rfl rfl (by omega) (by omega) ?_
    obtain ⟨⟨el2, el3⟩, hW2, hW3⟩ := (Vu8_F f2 (Vu8_F (F8_9 f1) hU)).2 i hi hi1
    rw [el3]
    obtain ⟨v3, g3, r3, hc3, hr3, f3, hv3, hm3⟩ := rt_ex (show Ou 137 0 (am_ini 137 [vR 8 0, vI d, vR 22 0, vI (12 * i + 6), vI (L i 1)]) [] g2 r1 _ from c8_reckons_s hS hd hd1 hb hui.2.1 (Vr8_8 f2 (Vr8_8 (F8_9 f1) hV)) hW3 (by omega) (by omega))
    subst hv3
    subst hr3
    have f4 := F8_tr (F8_9 f1) (F8_tr f2 (F8_9 f3))
    have e27 := (Vr8_8 f4 hV).1
    have e28 := (Vr8_8 f4 hV).2.1
    refine o_invi (n := 78) rfl rfl rfl rfl rfl rfl rfl rfl rfl rfl (hc3) ?_
    refine o_ifb_ne (n := 81) (t := 83) rfl rfl rfl (fun h78 => ?_) (fun h78 => ?_)
    · refine o_aload_n (n := 84) rfl rfl rfl ?_
      refine of_8_17 (n := 87) hS rfl rfl ?_
      refine o_iload_n (n := 88) rfl rfl rfl ?_
      refine o_iald (n := 89) (L := 9) rfl rfl rfl rfl rfl (by omega) (by omega) ?_
      rw [e27]
      refine o_istore_3 (n := 90) rfl rfl rfl ?_
      refine o_aload_n (n := 91) rfl rfl rfl ?_
      refine of_8_18 (n := 94) hS rfl rfl ?_
      refine o_iload_n (n := 95) rfl rfl rfl ?_
      refine o_iald (n := 96) (L := 9) rfl rfl rfl rfl rfl (by omega) (by omega) ?_
      rw [e28]
      refine o_istore_4 (n := 98) rfl rfl rfl ?_
      refine o_iconst (n := 99) rfl rfl ?_
      refine o_istore_5 (n := 101) rfl rfl rfl ?_
      refine o_iconst (n := 102) rfl rfl ?_
      refine o_istore_6 (n := 104) rfl rfl rfl ?_
      obtain ⟨k5, v5, g5, r5, h5, h6, h7, h8⟩ := l8_gr (g := g3) (r := r3) (ρ := ρ) (n := n) (A := mt ρ n E (W i 0) (L i 0).toNat) (B := mt ρ n E (W i 1) (L i 1).toNat) (d := d) (i := i) hS hb.1 hb.2.1.1 hb.2.1.2 (fun x y a b c d => by rw [f3 32 (by decide) (by decide), hl2 (3 * x + y) (by omega) (by omega)]; exact hm1 h21 x y a b c d) (fun x y a b c d => hm3 h78 x y a b c d) (n * n).toNat 0 1 _ (by omega) (by have := nn_b hb.2.1.1 hb.2.1.2; omega) (fun j a b => by omega) (Or.inl ⟨rfl, fun j a b => by omega⟩)
      subst h6; subst h7; subst h8
      refine ⟨k5, _, _, _, h5, ?_, rfl, f4⟩
      unfold gr grd
      rw [cif_f h21, cif_f h78]
    · refine o_iconst (n := 82) rfl rfl ?_
      refine o_iret rfl rfl ?_
      first | (exfalso; omega; done) | exact ⟨by unfold gr grd; rw [cif_f h21, cif_t (Classical.not_not.mp h78)], rfl, f4⟩
  · refine o_iconst (n := 25) rfl rfl ?_
    refine o_iret rfl rfl ?_
    first | (exfalso; omega; done) | exact ⟨by unfold gr grd; rw [cif_t (Classical.not_not.mp h21)], rfl, F8_9 f1⟩
end JUDGE
