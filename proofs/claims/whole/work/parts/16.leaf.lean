/-! truth values as answers; references that change within bounds; contracts of the leaves. Written by wip/gen/gen16.py -/
noncomputable def cif {α : Type} (p : Prop) (a b : α) : α := @ite α p (Classical.propDecidable p) a b
theorem cif_t {α : Type} {p : Prop} {a b : α} (h : p) : cif p a b = a := @if_pos p (Classical.propDecidable p) h α a b
theorem cif_f {α : Type} {p : Prop} {a b : α} (h : ¬ p) : cif p a b = b := @if_neg p (Classical.propDecidable p) h α a b
theorem cif_congr {α : Type} {p q : Prop} {a b : α} (h : p ↔ q) : cif p a b = cif q a b := by rw [propext h]
noncomputable def bi (p : Prop) : Int := cif p 1 0
theorem bi_t {p : Prop} (h : p) : bi p = 1 := cif_t h
theorem bi_f {p : Prop} (h : ¬ p) : bi p = 0 := cif_f h
theorem bi_01 (p : Prop) : bi p = 0 ∨ bi p = 1 := by
  by_cases h : p
  · exact Or.inr (bi_t h)
  · exact Or.inl (bi_f h)
theorem bi_congr {p q : Prop} (h : p ↔ q) : bi p = bi q := cif_congr h
theorem gset_at {g : GI} {k : Nat} {i s v : Int} : gset g k i s v k i s = v := by unfold gset; rw [if_pos ⟨rfl, rfl, rfl⟩]
theorem gset_k {g : GI} {k : Nat} {i s v : Int} {k' : Nat} {i' s' : Int} (h : Nat.beq k' k = false) : gset g k i s v k' i' s' = g k' i' s' := by unfold gset; rw [if_neg (fun z => by rw [z.1] at h; simp at h)]
theorem gset_i {g : GI} {k : Nat} {i s v : Int} {k' : Nat} {i' s' : Int} (h : i' ≠ i) : gset g k i s v k' i' s' = g k' i' s' := by unfold gset; rw [if_neg (fun z => h z.2.1)]
theorem gset_s {g : GI} {k : Nat} {i s v : Int} {k' : Nat} {i' s' : Int} (h : s' ≠ s) : gset g k i s v k' i' s' = g k' i' s' := by unfold gset; rw [if_neg (fun z => h z.2.2)]
theorem gset_kf {g : GI} {k : Nat} {i s v : Int} {k' : Nat} (h : k' ≠ k) : gset g k i s v k' = g k' := by funext i' s'; unfold gset; rw [if_neg (fun z => h z.1)]
def am_Rg (r : GI) : Prop := (∀ j, 0 ≤ j → j < 8 → 0 ≤ r 14 0 j ∧ r 14 0 j < 8) ∧ (∀ j, 0 ≤ j → j < 8 → 0 ≤ r 15 0 j ∧ r 15 0 j < 8) ∧ (∀ i, 0 ≤ i → i < 2 → 0 ≤ r 6 i 1 ∧ r 6 i 1 < 4 ∧ 0 ≤ r 6 i 2 ∧ r 6 i 2 < 4)
section OU2
variable {m pc n : Nat} {ls st : List AV} {g r : GI} {Q : Option AV → GI → GI → Prop} {a : Int} {b c d : Nat}
theorem o_ifb_eq {p : Prop} {z : Int} {t : Nat} (h : am_code m pc = some (.ifCond .eq z, 3, a, b, c, d)) (hp : pc + 3 = n) (ht : a.toNat = t) (kt : ¬ p → Ou m t ls st g r Q) (kf : p → Ou m n ls st g r Q) : Ou m pc ls (vI (bi p) :: st) g r Q := by
  by_cases hc : p
  · exact o_if_eq h hp ht (fun z => absurd z (by rw [bi_t hc]; decide)) (fun _ => kf hc)
  · exact o_if_eq h hp ht (fun _ => kt hc) (fun z => absurd (bi_f hc) z)
theorem o_ifb_ne {p : Prop} {z : Int} {t : Nat} (h : am_code m pc = some (.ifCond .ne z, 3, a, b, c, d)) (hp : pc + 3 = n) (ht : a.toNat = t) (kt : p → Ou m t ls st g r Q) (kf : ¬ p → Ou m n ls st g r Q) : Ou m pc ls (vI (bi p) :: st) g r Q := by
  by_cases hc : p
  · exact o_if_ne h hp ht (fun _ => kt hc) (fun z => absurd z (by rw [bi_t hc]; decide))
  · exact o_if_ne h hp ht (fun z => absurd (bi_f hc) z) (fun _ => kf hc)
theorem o_ra14 {j : Int} (hR : am_Rg r) (h : am_code m pc = some (.aaload, 1, a, b, c, d)) (hp : pc + 1 = n) (h0 : 0 ≤ j) (h1 : j < 8) (kk : 0 ≤ r 14 0 j → r 14 0 j < 8 → Ou m n ls (vR 2 (r 14 0 j) :: st) g r Q) : Ou m pc ls (vI j :: vR 14 0 :: st) g r Q := o_rald h hp rfl rfl rfl rfl h0 h1 rfl (hR.1 j h0 h1).1 (kk (hR.1 j h0 h1).1 (hR.1 j h0 h1).2)
theorem o_ra15 {j : Int} (hR : am_Rg r) (h : am_code m pc = some (.aaload, 1, a, b, c, d)) (hp : pc + 1 = n) (h0 : 0 ≤ j) (h1 : j < 8) (kk : 0 ≤ r 15 0 j → r 15 0 j < 8 → Ou m n ls (vR 4 (r 15 0 j) :: st) g r Q) : Ou m pc ls (vI j :: vR 15 0 :: st) g r Q := o_rald h hp rfl rfl rfl rfl h0 h1 rfl (hR.2.1 j h0 h1).1 (kk (hR.2.1 j h0 h1).1 (hR.2.1 j h0 h1).2)
theorem of_6_1 {i : Int} {z : Nat} (hR : am_Rg r) (h : am_code m pc = some (.getfield z, 3, 1, 6, c, d)) (hp : pc + 3 = n) (h0 : 0 ≤ i) (h1 : i < 2) (kk : 0 ≤ r 6 i 1 → r 6 i 1 < 4 → Ou m n ls (vR 13 (r 6 i 1) :: st) g r Q) : Ou m pc ls (vR 6 i :: st) g r Q := o_getr h hp rfl (ok_6 h0 h1) rfl rfl rfl (hR.2.2 i h0 h1).1 (kk (hR.2.2 i h0 h1).1 (hR.2.2 i h0 h1).2.1)
theorem of_6_2 {i : Int} {z : Nat} (hR : am_Rg r) (h : am_code m pc = some (.getfield z, 3, 2, 6, c, d)) (hp : pc + 3 = n) (h0 : 0 ≤ i) (h1 : i < 2) (kk : 0 ≤ r 6 i 2 → r 6 i 2 < 4 → Ou m n ls (vR 13 (r 6 i 2) :: st) g r Q) : Ou m pc ls (vR 6 i :: st) g r Q := o_getr h hp rfl (ok_6 h0 h1) rfl rfl rfl (hR.2.2 i h0 h1).2.2.1 (kk (hR.2.2 i h0 h1).2.2.1 (hR.2.2 i h0 h1).2.2.2)
end OU2
def bt (bits k : Int) : Prop := am_and (am_shr bits k) 1 = 1
section LEAF
variable {g r : GI}
theorem c8_in (v lo hi : Int) : Rt 108 [vL v, vL lo, vL hi] g r (some (vI (bi (lo ≤ v ∧ v ≤ hi)))) g r := by
  refine rt_of ?_
  show Ou 108 0 [vL v, vN, vL lo, vN, vL hi, vN] [] g r _
  refine o_lload_n (n := 1) rfl rfl rfl ?_
  refine o_lload_n (n := 2) rfl rfl rfl ?_
  refine o_lcmp_lt (n := 6) (t := 17) rfl rfl rfl rfl (fun h2 => ?_) (fun h2 => ?_)
  · refine o_iconst (n := 18) rfl rfl ?_
    refine o_zret rfl rfl (by omega) ?_
    first | (exfalso; omega; done) | exact ⟨by first | rw [bi_f (by omega)] | rw [bi_t (by omega)], rfl, rfl⟩
  · refine o_lload_n (n := 7) rfl rfl rfl ?_
    refine o_lload (n := 9) rfl rfl rfl ?_
    refine o_lcmp_gt (n := 13) (t := 17) rfl rfl rfl rfl (fun h9 => ?_) (fun h9 => ?_)
    · refine o_iconst (n := 18) rfl rfl ?_
      refine o_zret rfl rfl (by omega) ?_
      first | (exfalso; omega; done) | exact ⟨by first | rw [bi_f (by omega)] | rw [bi_t (by omega)], rfl, rfl⟩
    · refine o_iconst (n := 14) rfl rfl ?_
      refine o_goto (t := 18) rfl rfl ?_
      refine o_zret rfl rfl (by omega) ?_
      first | (exfalso; omega; done) | exact ⟨by first | rw [bi_f (by omega)] | rw [bi_t (by omega)], rfl, rfl⟩
theorem c8_isTwo (v : Int) : Rt 109 [vI v] g r (some (vI (bi (0 ≤ v ∧ v ≤ 1)))) g r := by
  refine rt_of ?_
  show Ou 109 0 [vI v] [] g r _
  refine o_iload_n (n := 1) rfl rfl rfl ?_
  refine o_i2l (n := 2) rfl rfl ?_
  refine o_lconst (n := 3) rfl rfl ?_
  refine o_lconst (n := 4) rfl rfl ?_
  refine o_invsi (n := 7) rfl rfl rfl rfl rfl rfl (c8_in _ _ _) ?_
  refine o_zret rfl rfl (bi_01 _) ?_
  first | (exfalso; omega; done) | exact ⟨rfl, rfl, rfl⟩
theorem c8_isIn (x k : Int) : Rt 110 [vI x, vI k] g r (some (vI (bi (bt x k)))) g r := by
  refine rt_of ?_
  show Ou 110 0 [vI x, vI k] [] g r _
  refine o_iload_n (n := 1) rfl rfl rfl ?_
  refine o_iload_n (n := 2) rfl rfl rfl ?_
  refine o_ishr (n := 3) rfl rfl ?_
  refine o_iconst (n := 4) rfl rfl ?_
  refine o_iand (n := 5) rfl rfl ?_
  refine o_iconst (n := 6) rfl rfl ?_
  refine o_icmp_ne (n := 9) (t := 13) rfl rfl rfl (fun h6 => ?_) (fun h6 => ?_)
  · refine o_iconst (n := 14) rfl rfl ?_
    refine o_zret rfl rfl (by omega) ?_
    first | (exfalso; omega; done) | exact ⟨by first | rw [bi_f (by unfold bt; omega)] | rw [bi_t (by unfold bt; omega)], rfl, rfl⟩
  · refine o_iconst (n := 10) rfl rfl ?_
    refine o_goto (t := 14) rfl rfl ?_
    refine o_zret rfl rfl (by omega) ?_
    first | (exfalso; omega; done) | exact ⟨by first | rw [bi_f (by unfold bt; omega)] | rw [bi_t (by unfold bt; omega)], rfl, rfl⟩
theorem c8_lesser (x y : Int) : Rt 111 [vI x, vI y] g r (some (vI (cif (x < y) x y))) g r := by
  refine rt_of ?_
  show Ou 111 0 [vI x, vI y] [] g r _
  refine o_iload_n (n := 1) rfl rfl rfl ?_
  refine o_iload_n (n := 2) rfl rfl rfl ?_
  refine o_icmp_ge (n := 5) (t := 9) rfl rfl rfl (fun h2 => ?_) (fun h2 => ?_)
  · refine o_iload_n (n := 10) rfl rfl rfl ?_
    refine o_iret rfl rfl ?_
    first | (exfalso; omega; done) | exact ⟨by first | rw [cif_f (by omega)] | rw [cif_t (by omega)], rfl, rfl⟩
  · refine o_iload_n (n := 6) rfl rfl rfl ?_
    refine o_goto (t := 10) rfl rfl ?_
    refine o_iret rfl rfl ?_
    first | (exfalso; omega; done) | exact ⟨by first | rw [cif_f (by omega)] | rw [cif_t (by omega)], rfl, rfl⟩
theorem c8_finds (f : Int) (h0 : 0 ≤ f) (h1 : f ≤ 5) : Rt 112 [vR 8 0, vI f] g r (some (vI (-10 - f))) (gset g 8 0 4 f) r := by
  refine rt_of ?_
  show Ou 112 0 [vR 8 0, vI f] [] g r _
  refine o_aload_n (n := 1) rfl rfl rfl ?_
  refine o_iload_n (n := 2) rfl rfl rfl ?_
  refine o_puti (n := 5) rfl rfl rfl rfl rfl ?_
  refine o_bipush (n := 7) rfl rfl ?_
  refine o_iload_n (n := 8) rfl rfl rfl ?_
  refine o_isub (n := 9) rfl rfl (by omega) ?_
  refine o_iret rfl rfl ?_
  first | (exfalso; omega; done) | exact ⟨rfl, rfl, rfl⟩
theorem c8_isSheet (s : Int) : Rt 113 [vI s] g r (some (vI (bi (0 ≤ s ∧ s ≤ 3)))) g r := by
  refine rt_of ?_
  show Ou 113 0 [vI s] [] g r _
  refine o_iload_n (n := 1) rfl rfl rfl ?_
  refine o_i2l (n := 2) rfl rfl ?_
  refine o_lconst (n := 3) rfl rfl ?_
  refine o_ldc2_w (n := 6) rfl rfl ?_
  refine o_invsi (n := 9) rfl rfl rfl rfl rfl rfl (c8_in _ _ _) ?_
  refine o_zret rfl rfl (bi_01 _) ?_
  first | (exfalso; omega; done) | exact ⟨rfl, rfl, rfl⟩
noncomputable def ct (f v : Int) : Int := cif (f = 0) (am_i2b v) (cif (f = 1) (am_i2s v) v)
theorem c8_cut (f v : Int) : Rt 117 [vI f, vI v] g r (some (vI (ct f v))) g r := by
  refine rt_of ?_
  show Ou 117 0 [vI f, vI v] [] g r _
  refine o_iload_n (n := 1) rfl rfl rfl ?_
  refine o_if_ne (n := 4) (t := 9) rfl rfl rfl (fun h1 => ?_) (fun h1 => ?_)
  · refine o_iload_n (n := 10) rfl rfl rfl ?_
    refine o_iconst (n := 11) rfl rfl ?_
    refine o_icmp_ne (n := 14) (t := 19) rfl rfl rfl (fun h11 => ?_) (fun h11 => ?_)
    · refine o_iload_n (n := 20) rfl rfl rfl ?_
      refine o_iret rfl rfl ?_
      first | (exfalso; omega; done) | exact ⟨by unfold ct; first | (rw [cif_f (by omega)]; rw [cif_f (by omega)]) | (rw [cif_f (by omega)]; rw [cif_t (by omega)]) | (rw [cif_t (by omega)]), rfl, rfl⟩
    · refine o_iload_n (n := 15) rfl rfl rfl ?_
      refine o_i2s (n := 16) rfl rfl ?_
      refine o_goto (t := 20) rfl rfl ?_
      refine o_iret rfl rfl ?_
      first | (exfalso; omega; done) | exact ⟨by unfold ct; first | (rw [cif_f (by omega)]; rw [cif_f (by omega)]) | (rw [cif_f (by omega)]; rw [cif_t (by omega)]) | (rw [cif_t (by omega)]), rfl, rfl⟩
  · refine o_iload_n (n := 5) rfl rfl rfl ?_
    refine o_i2b (n := 6) rfl rfl ?_
    refine o_goto (t := 20) rfl rfl ?_
    refine o_iret rfl rfl ?_
    first | (exfalso; omega; done) | exact ⟨by unfold ct; first | (rw [cif_f (by omega)]; rw [cif_f (by omega)]) | (rw [cif_f (by omega)]; rw [cif_t (by omega)]) | (rw [cif_t (by omega)]), rfl, rfl⟩
/-- which finding, 0 for none; the reference's way -/
noncomputable def lk8 (g : GI) (s f i : Int) : Int := cif (g 17 0 s < 0) 1 (cif (g 17 0 s ≠ f) 3 (cif (0 ≤ i ∧ i ≤ g 18 0 s - 1) 0 2))
/-- a finding told: state and answer -/
noncomputable def fs8 (g : GI) (f : Int) : GI := cif (f = 0) g (gset g 8 0 4 f)
noncomputable def fv (f : Int) : Int := cif (f = 0) 0 (-10 - f)
theorem fv_n {f : Int} (h : f ≠ 0) : fv f = -10 - f := cif_f h
theorem fv_0 : fv 0 = 0 := cif_t rfl
theorem fs8_n {f : Int} (h : f ≠ 0) : fs8 g f = gset g 8 0 4 f := cif_f h
theorem fs8_0 : fs8 g 0 = g := cif_t rfl
theorem c8_lacks (hS : am_St r) (s f i : Int) (h0 : 0 ≤ s) (h1 : s < 4) (hz : 0 ≤ g 18 0 s) (hz1 : g 18 0 s ≤ 60) : Rt 116 [vR 8 0, vI s, vI f, vI i] g r (some (vI (fv (lk8 g s f i)))) (fs8 g (lk8 g s f i)) r := by
  refine rt_of ?_
  show Ou 116 0 [vR 8 0, vI s, vI f, vI i] [] g r _
  refine o_aload_n (n := 1) rfl rfl rfl ?_
  refine of_8_0 (n := 4) hS rfl rfl ?_
  refine o_iload_n (n := 5) rfl rfl rfl ?_
  refine o_iald (n := 6) (L := 4) rfl rfl rfl rfl rfl (by omega) (by omega) ?_
  refine o_if_ge (n := 9) (t := 15) rfl rfl rfl (fun h6 => ?_) (fun h6 => ?_)
  · refine o_aload_n (n := 16) rfl rfl rfl ?_
    refine of_8_0 (n := 19) hS rfl rfl ?_
    refine o_iload_n (n := 20) rfl rfl rfl ?_
    refine o_iald (n := 21) (L := 4) rfl rfl rfl rfl rfl (by omega) (by omega) ?_
    refine o_iload_n (n := 22) rfl rfl rfl ?_
    refine o_icmp_eq (n := 25) (t := 31) rfl rfl rfl (fun h22 => ?_) (fun h22 => ?_)
    · refine o_iload_n (n := 32) rfl rfl rfl ?_
      refine o_i2l (n := 33) rfl rfl ?_
      refine o_lconst (n := 34) rfl rfl ?_
      refine o_aload_n (n := 35) rfl rfl rfl ?_
      refine of_8_1 (n := 38) hS rfl rfl ?_
      refine o_iload_n (n := 39) rfl rfl rfl ?_
      refine o_iald (n := 40) (L := 4) rfl rfl rfl rfl rfl (by omega) (by omega) ?_
      refine o_iconst (n := 41) rfl rfl ?_
      refine o_isub (n := 42) rfl rfl (by omega) ?_
      refine o_i2l (n := 43) rfl rfl ?_
      refine o_invsi (n := 46) rfl rfl rfl rfl rfl rfl (c8_in _ _ _) ?_
      refine o_ifb_eq (n := 49) (t := 53) rfl rfl rfl (fun h46 => ?_) (fun h46 => ?_)
      · refine o_aload_n (n := 54) rfl rfl rfl ?_
        refine o_iconst (n := 55) rfl rfl ?_
        refine o_invi (n := 58) rfl rfl rfl rfl rfl rfl rfl rfl rfl rfl (c8_finds _ (by omega) (by omega)) ?_
        refine o_iret rfl rfl ?_
        have e : lk8 g s f i = 2 := by unfold lk8; first | (rw [cif_f (by omega)]; rw [cif_f (by omega)]; rw [cif_f (by omega)]) | (rw [cif_f (by omega)]; rw [cif_f (by omega)]; rw [cif_t (by omega)]) | (rw [cif_f (by omega)]; rw [cif_t (by omega)]) | (rw [cif_t (by omega)])
        rw [e]
        exact ⟨by rw [fv_n (by decide)], by rw [fs8_n (by decide)], rfl⟩
      · refine o_iconst (n := 50) rfl rfl ?_
        refine o_goto (t := 58) rfl rfl ?_
        refine o_iret rfl rfl ?_
        have e : lk8 g s f i = 0 := by unfold lk8; first | (rw [cif_f (by omega)]; rw [cif_f (by omega)]; rw [cif_f (by omega)]) | (rw [cif_f (by omega)]; rw [cif_f (by omega)]; rw [cif_t (by omega)]) | (rw [cif_f (by omega)]; rw [cif_t (by omega)]) | (rw [cif_t (by omega)])
        rw [e]
        exact ⟨by rw [fv_0], by rw [fs8_0], rfl⟩
    · refine o_aload_n (n := 26) rfl rfl rfl ?_
      refine o_iconst (n := 27) rfl rfl ?_
      refine o_invi (n := 30) rfl rfl rfl rfl rfl rfl rfl rfl rfl rfl (c8_finds _ (by omega) (by omega)) ?_
      refine o_iret rfl rfl ?_
      have e : lk8 g s f i = 3 := by unfold lk8; first | (rw [cif_f (by omega)]; rw [cif_f (by omega)]; rw [cif_f (by omega)]) | (rw [cif_f (by omega)]; rw [cif_f (by omega)]; rw [cif_t (by omega)]) | (rw [cif_f (by omega)]; rw [cif_t (by omega)]) | (rw [cif_t (by omega)])
      rw [e]
      exact ⟨by rw [fv_n (by decide)], by rw [fs8_n (by decide)], rfl⟩
  · refine o_aload_n (n := 10) rfl rfl rfl ?_
    refine o_iconst (n := 11) rfl rfl ?_
    refine o_invi (n := 14) rfl rfl rfl rfl rfl rfl rfl rfl rfl rfl (c8_finds _ (by omega) (by omega)) ?_
    refine o_iret rfl rfl ?_
    have e : lk8 g s f i = 1 := by unfold lk8; first | (rw [cif_f (by omega)]; rw [cif_f (by omega)]; rw [cif_f (by omega)]) | (rw [cif_f (by omega)]; rw [cif_f (by omega)]; rw [cif_t (by omega)]) | (rw [cif_f (by omega)]; rw [cif_t (by omega)]) | (rw [cif_t (by omega)])
    rw [e]
    exact ⟨by rw [fv_n (by decide)], by rw [fs8_n (by decide)], rfl⟩
theorem c8_isSign (b : Int) (h0 : 1 ≤ g 8 0 5) (h1 : g 8 0 5 ≤ 4) : Rt 124 [vR 8 0, vI b] g r (some (vI (bi (97 ≤ b ∧ b ≤ 96 + g 8 0 5)))) g r := by
  refine rt_of ?_
  show Ou 124 0 [vR 8 0, vI b] [] g r _
  refine o_iload_n (n := 1) rfl rfl rfl ?_
  refine o_i2l (n := 2) rfl rfl ?_
  refine o_ldc2_w (n := 5) rfl rfl ?_
  refine o_bipush (n := 7) rfl rfl ?_
  refine o_aload_n (n := 8) rfl rfl rfl ?_
  refine o_geti (n := 11) rfl rfl rfl rfl rfl ?_
  refine o_iadd (n := 12) rfl rfl (by omega) ?_
  refine o_i2l (n := 13) rfl rfl ?_
  refine o_invsi (n := 16) rfl rfl rfl rfl rfl rfl (c8_in _ _ _) ?_
  refine o_zret rfl rfl (bi_01 _) ?_
  first | (exfalso; omega; done) | exact ⟨rfl, rfl, rfl⟩
theorem c8_isRule (i : Int) (h0 : 0 ≤ g 8 0 8) (h1 : g 8 0 8 ≤ 8) : Rt 129 [vR 8 0, vI i] g r (some (vI (bi (0 ≤ i ∧ i ≤ g 8 0 8 - 1)))) g r := by
  refine rt_of ?_
  show Ou 129 0 [vR 8 0, vI i] [] g r _
  refine o_iload_n (n := 1) rfl rfl rfl ?_
  refine o_i2l (n := 2) rfl rfl ?_
  refine o_lconst (n := 3) rfl rfl ?_
  refine o_aload_n (n := 4) rfl rfl rfl ?_
  refine o_geti (n := 7) rfl rfl rfl rfl rfl ?_
  refine o_iconst (n := 8) rfl rfl ?_
  refine o_isub (n := 9) rfl rfl (by omega) ?_
  refine o_i2l (n := 10) rfl rfl ?_
  refine o_invsi (n := 13) rfl rfl rfl rfl rfl rfl (c8_in _ _ _) ?_
  refine o_zret rfl rfl (bi_01 _) ?_
  first | (exfalso; omega; done) | exact ⟨rfl, rfl, rfl⟩
theorem c8_isStage (i : Int) (h0 : 0 ≤ g 8 0 19) (h1 : g 8 0 19 ≤ 8) : Rt 161 [vR 8 0, vI i] g r (some (vI (bi (0 ≤ i ∧ i ≤ g 8 0 19 - 1)))) g r := by
  refine rt_of ?_
  show Ou 161 0 [vR 8 0, vI i] [] g r _
  refine o_iload_n (n := 1) rfl rfl rfl ?_
  refine o_i2l (n := 2) rfl rfl ?_
  refine o_lconst (n := 3) rfl rfl ?_
  refine o_aload_n (n := 4) rfl rfl rfl ?_
  refine o_geti (n := 7) rfl rfl rfl rfl rfl ?_
  refine o_iconst (n := 8) rfl rfl ?_
  refine o_isub (n := 9) rfl rfl (by omega) ?_
  refine o_i2l (n := 10) rfl rfl ?_
  refine o_invsi (n := 13) rfl rfl rfl rfl rfl rfl (c8_in _ _ _) ?_
  refine o_zret rfl rfl (bi_01 _) ?_
  first | (exfalso; omega; done) | exact ⟨rfl, rfl, rfl⟩
theorem c8_isEntry (s x y : Int) (h0 : 1 ≤ g 8 0 5) (h1 : g 8 0 5 ≤ 4) : Rt 149 [vR 8 0, vI s, vI x, vI y] g r (some (vI (bi ((0 ≤ s ∧ s ≤ g 8 0 5 - 1) ∧ (0 ≤ x ∧ x ≤ 2) ∧ (0 ≤ y ∧ y ≤ 2))))) g r := by
  refine rt_of ?_
  show Ou 149 0 [vR 8 0, vI s, vI x, vI y] [] g r _
  refine o_iload_n (n := 1) rfl rfl rfl ?_
  refine o_i2l (n := 2) rfl rfl ?_
  refine o_lconst (n := 3) rfl rfl ?_
  refine o_aload_n (n := 4) rfl rfl rfl ?_
  refine o_geti (n := 7) rfl rfl rfl rfl rfl ?_
  refine o_iconst (n := 8) rfl rfl ?_
  refine o_isub (n := 9) rfl rfl (by omega) ?_
  refine o_i2l (n := 10) rfl rfl ?_
  refine o_invsi (n := 13) rfl rfl rfl rfl rfl rfl (c8_in _ _ _) ?_
  refine o_ifb_eq (n := 16) (t := 44) rfl rfl rfl (fun h13 => ?_) (fun h13 => ?_)
  · refine o_iconst (n := 45) rfl rfl ?_
    refine o_zret rfl rfl (by omega) ?_
    first | (exfalso; omega; done) | exact ⟨by first | rw [bi_f (by omega)] | rw [bi_t (by omega)], rfl, rfl⟩
  · refine o_iload_n (n := 17) rfl rfl rfl ?_
    refine o_i2l (n := 18) rfl rfl ?_
    refine o_lconst (n := 19) rfl rfl ?_
    refine o_ldc2_w (n := 22) rfl rfl ?_
    refine o_invsi (n := 25) rfl rfl rfl rfl rfl rfl (c8_in _ _ _) ?_
    refine o_ifb_eq (n := 28) (t := 44) rfl rfl rfl (fun h25 => ?_) (fun h25 => ?_)
    · refine o_iconst (n := 45) rfl rfl ?_
      refine o_zret rfl rfl (by omega) ?_
      first | (exfalso; omega; done) | exact ⟨by first | rw [bi_f (by omega)] | rw [bi_t (by omega)], rfl, rfl⟩
    · refine o_iload_n (n := 29) rfl rfl rfl ?_
      refine o_i2l (n := 30) rfl rfl ?_
      refine o_lconst (n := 31) rfl rfl ?_
      refine o_ldc2_w (n := 34) rfl rfl ?_
      refine o_invsi (n := 37) rfl rfl rfl rfl rfl rfl (c8_in _ _ _) ?_
      refine o_ifb_eq (n := 40) (t := 44) rfl rfl rfl (fun h37 => ?_) (fun h37 => ?_)
      · refine o_iconst (n := 45) rfl rfl ?_
        refine o_zret rfl rfl (by omega) ?_
        first | (exfalso; omega; done) | exact ⟨by first | rw [bi_f (by omega)] | rw [bi_t (by omega)], rfl, rfl⟩
      · refine o_iconst (n := 41) rfl rfl ?_
        refine o_goto (t := 45) rfl rfl ?_
        refine o_zret rfl rfl (by omega) ?_
        first | (exfalso; omega; done) | exact ⟨by first | rw [bi_f (by omega)] | rw [bi_t (by omega)], rfl, rfl⟩
theorem c8_entryBy (hS : am_St r) (d s x y : Int) (hd : 0 ≤ d) (hd1 : d < 9) (h0 : 0 ≤ s) (h1 : s < 4) (h2 : 0 ≤ x) (h3 : x < 3) (h4 : 0 ≤ y) (h5 : y < 3) : Rt 150 [vR 8 0, vI d, vI s, vI x, vI y] g r (some (vI (g 26 0 (36 * d + 9 * s + 3 * x + y)))) g r := by
  refine rt_of ?_
  show Ou 150 0 [vR 8 0, vI d, vI s, vI x, vI y] [] g r _
  refine o_aload_n (n := 1) rfl rfl rfl ?_
  refine of_8_16 (n := 4) hS rfl rfl ?_
  refine o_bipush (n := 6) rfl rfl ?_
  refine o_iload_n (n := 7) rfl rfl rfl ?_
  refine o_imul (n := 8) rfl rfl (by omega) ?_
  refine o_bipush (n := 10) rfl rfl ?_
  refine o_iload_n (n := 11) rfl rfl rfl ?_
  refine o_imul (n := 12) rfl rfl (by omega) ?_
  refine o_iadd (n := 13) rfl rfl (by omega) ?_
  refine o_iconst (n := 14) rfl rfl ?_
  refine o_iload_n (n := 15) rfl rfl rfl ?_
  refine o_imul (n := 16) rfl rfl (by omega) ?_
  refine o_iadd (n := 17) rfl rfl (by omega) ?_
  refine o_iload (n := 19) rfl rfl rfl ?_
  refine o_iadd (n := 20) rfl rfl (by omega) ?_
  refine o_iald (n := 21) (L := 324) rfl rfl rfl rfl rfl (by omega) (by omega) ?_
  refine o_iret rfl rfl ?_
  first | (exfalso; omega; done) | exact ⟨rfl, rfl, rfl⟩
theorem c8_sideBy (hS : am_St r) (i s k : Int) (h0 : 0 ≤ i) (h1 : i < 8) (h2 : 0 ≤ s) (h3 : s ≤ 1) (h4 : -1 ≤ k) (h5 : k ≤ 5) (hl : g 23 0 (2 * i + s) ≤ 6) : Rt 131 [vR 8 0, vI i, vI s, vI k] g r (some (vI (cif (k = -1) (g 23 0 (2 * i + s)) (cif (k < g 23 0 (2 * i + s)) (g 22 0 (6 * (2 * i + s) + k)) (-1))))) g r := by
  refine rt_of ?_
  show Ou 131 0 [vR 8 0, vI i, vI s, vI k, vN] [] g r _
  refine o_iconst (n := 1) rfl rfl ?_
  refine o_iload_n (n := 2) rfl rfl rfl ?_
  refine o_imul (n := 3) rfl rfl (by omega) ?_
  refine o_iload_n (n := 4) rfl rfl rfl ?_
  refine o_iadd (n := 5) rfl rfl (by omega) ?_
  refine o_istore_4 (n := 7) rfl rfl rfl ?_
  refine o_iload_n (n := 8) rfl rfl rfl ?_
  refine o_iconst (n := 9) rfl rfl ?_
  refine o_icmp_ne (n := 12) (t := 22) rfl rfl rfl (fun h9 => ?_) (fun h9 => ?_)
  · refine o_iload_n (n := 23) rfl rfl rfl ?_
    refine o_aload_n (n := 24) rfl rfl rfl ?_
    refine of_8_10 (n := 27) hS rfl rfl ?_
    refine o_iload (n := 29) rfl rfl rfl ?_
    refine o_iald (n := 30) (L := 16) rfl rfl rfl rfl rfl (by omega) (by omega) ?_
    refine o_icmp_ge (n := 33) (t := 48) rfl rfl rfl (fun h30 => ?_) (fun h30 => ?_)
    · refine o_iconst (n := 49) rfl rfl ?_
      refine o_iret rfl rfl ?_
      first | (exfalso; omega; done) | exact ⟨by first | (rw [cif_f (by omega)]; rw [cif_f (by omega)]) | (rw [cif_f (by omega)]; rw [cif_t (by omega)]) | (rw [cif_t (by omega)]), rfl, rfl⟩
    · refine o_aload_n (n := 34) rfl rfl rfl ?_
      refine of_8_9 (n := 37) hS rfl rfl ?_
      refine o_bipush (n := 39) rfl rfl ?_
      refine o_iload (n := 41) rfl rfl rfl ?_
      refine o_imul (n := 42) rfl rfl (by omega) ?_
      refine o_iload_n (n := 43) rfl rfl rfl ?_
      refine o_iadd (n := 44) rfl rfl (by omega) ?_
      refine o_iald (n := 45) (L := 96) rfl rfl rfl rfl rfl (by omega) (by omega) ?_
      refine o_goto (t := 49) rfl rfl ?_
      refine o_iret rfl rfl ?_
      first | (exfalso; omega; done) | exact ⟨by first | (rw [cif_f (by omega)]; rw [cif_f (by omega)]) | (rw [cif_f (by omega)]; rw [cif_t (by omega)]) | (rw [cif_t (by omega)]), rfl, rfl⟩
  · refine o_aload_n (n := 13) rfl rfl rfl ?_
    refine of_8_10 (n := 16) hS rfl rfl ?_
    refine o_iload (n := 18) rfl rfl rfl ?_
    refine o_iald (n := 19) (L := 16) rfl rfl rfl rfl rfl (by omega) (by omega) ?_
    refine o_goto (t := 49) rfl rfl ?_
    refine o_iret rfl rfl ?_
    first | (exfalso; omega; done) | exact ⟨by first | (rw [cif_f (by omega)]; rw [cif_f (by omega)]) | (rw [cif_f (by omega)]; rw [cif_t (by omega)]) | (rw [cif_t (by omega)]), rfl, rfl⟩
theorem c8_letterBy (hS : am_St r) (k : Int) (h4 : -1 ≤ k) (h5 : k ≤ 23) : Rt 181 [vR 8 0, vI k] g r (some (vI (cif (k = -1) (g 8 0 14) (cif (k < g 8 0 14) (g 25 0 k) (-1))))) g r := by
  refine rt_of ?_
  show Ou 181 0 [vR 8 0, vI k] [] g r _
  refine o_iload_n (n := 1) rfl rfl rfl ?_
  refine o_iconst (n := 2) rfl rfl ?_
  refine o_icmp_ne (n := 5) (t := 12) rfl rfl rfl (fun h2 => ?_) (fun h2 => ?_)
  · refine o_iload_n (n := 13) rfl rfl rfl ?_
    refine o_aload_n (n := 14) rfl rfl rfl ?_
    refine o_geti (n := 17) rfl rfl rfl rfl rfl ?_
    refine o_icmp_ge (n := 20) (t := 29) rfl rfl rfl (fun h17 => ?_) (fun h17 => ?_)
    · refine o_iconst (n := 30) rfl rfl ?_
      refine o_iret rfl rfl ?_
      first | (exfalso; omega; done) | exact ⟨by first | (rw [cif_f (by omega)]; rw [cif_f (by omega)]) | (rw [cif_f (by omega)]; rw [cif_t (by omega)]) | (rw [cif_t (by omega)]), rfl, rfl⟩
    · refine o_aload_n (n := 21) rfl rfl rfl ?_
      refine of_8_13 (n := 24) hS rfl rfl ?_
      refine o_iload_n (n := 25) rfl rfl rfl ?_
      refine o_iald (n := 26) (L := 24) rfl rfl rfl rfl rfl (by omega) (by omega) ?_
      refine o_goto (t := 30) rfl rfl ?_
      refine o_iret rfl rfl ?_
      first | (exfalso; omega; done) | exact ⟨by first | (rw [cif_f (by omega)]; rw [cif_f (by omega)]) | (rw [cif_f (by omega)]; rw [cif_t (by omega)]) | (rw [cif_t (by omega)]), rfl, rfl⟩
  · refine o_aload_n (n := 6) rfl rfl rfl ?_
    refine o_geti (n := 9) rfl rfl rfl rfl rfl ?_
    refine o_goto (t := 30) rfl rfl ?_
    refine o_iret rfl rfl ?_
    first | (exfalso; omega; done) | exact ⟨by first | (rw [cif_f (by omega)]; rw [cif_f (by omega)]) | (rw [cif_f (by omega)]; rw [cif_t (by omega)]) | (rw [cif_t (by omega)]), rfl, rfl⟩
noncomputable def jn (ρ a b : Int) : Int := cif (a = -1 ∨ b = -1) (cif (a = -1) b a) (cif ((ρ = 1 ∧ a < b) ∨ (ρ ≠ 1 ∧ b ≤ a)) a b)
theorem c8_joined (ρ a b : Int) : Rt 135 [vI ρ, vL a, vL b] g r (some (vL (jn ρ a b))) g r := by
  refine rt_of ?_
  show Ou 135 0 [vI ρ, vL a, vN, vL b, vN] [] g r _
  refine o_lload_n (n := 1) rfl rfl rfl ?_
  refine o_ldc2_w (n := 4) rfl rfl ?_
  refine o_lcmp_eq (n := 8) (t := 16) rfl rfl rfl rfl (fun h4 => ?_) (fun h4 => ?_)
  · refine o_lload_n (n := 17) rfl rfl rfl ?_
    refine o_ldc2_w (n := 20) rfl rfl ?_
    refine o_lcmp_ne (n := 24) (t := 28) rfl rfl rfl rfl (fun h20 => ?_) (fun h20 => ?_)
    · refine o_lload_n (n := 29) rfl rfl rfl ?_
      refine o_lret rfl ?_
      first | (exfalso; omega; done) | exact ⟨by unfold jn; first | (rw [cif_t (by omega), cif_t (by omega)]) | (rw [cif_t (by omega), cif_f (by omega)]) | (rw [cif_f (by omega), cif_t (by omega)]) | (rw [cif_f (by omega), cif_f (by omega)]), rfl, rfl⟩
    · refine o_lload_n (n := 25) rfl rfl rfl ?_
      refine o_goto (t := 29) rfl rfl ?_
      refine o_lret rfl ?_
      first | (exfalso; omega; done) | exact ⟨by unfold jn; first | (rw [cif_t (by omega), cif_t (by omega)]) | (rw [cif_t (by omega), cif_f (by omega)]) | (rw [cif_f (by omega), cif_t (by omega)]) | (rw [cif_f (by omega), cif_f (by omega)]), rfl, rfl⟩
  · refine o_lload_n (n := 9) rfl rfl rfl ?_
    refine o_ldc2_w (n := 12) rfl rfl ?_
    refine o_lcmp_ne (n := 16) (t := 30) rfl rfl rfl rfl (fun h12 => ?_) (fun h12 => ?_)
    · refine o_iload_n (n := 31) rfl rfl rfl ?_
      refine o_iconst (n := 32) rfl rfl ?_
      refine o_icmp_ne (n := 35) (t := 39) rfl rfl rfl (fun h32 => ?_) (fun h32 => ?_)
      · refine o_iconst (n := 40) rfl rfl ?_
        refine o_lload_n (n := 41) rfl rfl rfl ?_
        refine o_lload_n (n := 42) rfl rfl rfl ?_
        refine o_lcmp_ge (n := 46) (t := 50) rfl rfl rfl rfl (fun h42 => ?_) (fun h42 => ?_)
        · refine o_iconst (n := 51) rfl rfl ?_
          refine o_icmp_ne (n := 54) (t := 58) rfl rfl rfl (fun h51 => ?_) (fun h51 => ?_)
          · refine o_lload_n (n := 59) rfl rfl rfl ?_
            refine o_lret rfl ?_
            first | (exfalso; omega; done) | exact ⟨by unfold jn; first | (rw [cif_t (by omega), cif_t (by omega)]) | (rw [cif_t (by omega), cif_f (by omega)]) | (rw [cif_f (by omega), cif_t (by omega)]) | (rw [cif_f (by omega), cif_f (by omega)]), rfl, rfl⟩
          · refine o_lload_n (n := 55) rfl rfl rfl ?_
            refine o_goto (t := 59) rfl rfl ?_
            refine o_lret rfl ?_
            first | (exfalso; omega; done) | exact ⟨by unfold jn; first | (rw [cif_t (by omega), cif_t (by omega)]) | (rw [cif_t (by omega), cif_f (by omega)]) | (rw [cif_f (by omega), cif_t (by omega)]) | (rw [cif_f (by omega), cif_f (by omega)]), rfl, rfl⟩
        · refine o_iconst (n := 47) rfl rfl ?_
          refine o_goto (t := 51) rfl rfl ?_
          refine o_icmp_ne (n := 54) (t := 58) rfl rfl rfl (fun h51 => ?_) (fun h51 => ?_)
          · refine o_lload_n (n := 59) rfl rfl rfl ?_
            refine o_lret rfl ?_
            first | (exfalso; omega; done) | exact ⟨by unfold jn; first | (rw [cif_t (by omega), cif_t (by omega)]) | (rw [cif_t (by omega), cif_f (by omega)]) | (rw [cif_f (by omega), cif_t (by omega)]) | (rw [cif_f (by omega), cif_f (by omega)]), rfl, rfl⟩
          · refine o_lload_n (n := 55) rfl rfl rfl ?_
            refine o_goto (t := 59) rfl rfl ?_
            refine o_lret rfl ?_
            first | (exfalso; omega; done) | exact ⟨by unfold jn; first | (rw [cif_t (by omega), cif_t (by omega)]) | (rw [cif_t (by omega), cif_f (by omega)]) | (rw [cif_f (by omega), cif_t (by omega)]) | (rw [cif_f (by omega), cif_f (by omega)]), rfl, rfl⟩
      · refine o_iconst (n := 36) rfl rfl ?_
        refine o_goto (t := 40) rfl rfl ?_
        refine o_lload_n (n := 41) rfl rfl rfl ?_
        refine o_lload_n (n := 42) rfl rfl rfl ?_
        refine o_lcmp_ge (n := 46) (t := 50) rfl rfl rfl rfl (fun h42 => ?_) (fun h42 => ?_)
        · refine o_iconst (n := 51) rfl rfl ?_
          refine o_icmp_ne (n := 54) (t := 58) rfl rfl rfl (fun h51 => ?_) (fun h51 => ?_)
          · refine o_lload_n (n := 59) rfl rfl rfl ?_
            refine o_lret rfl ?_
            first | (exfalso; omega; done) | exact ⟨by unfold jn; first | (rw [cif_t (by omega), cif_t (by omega)]) | (rw [cif_t (by omega), cif_f (by omega)]) | (rw [cif_f (by omega), cif_t (by omega)]) | (rw [cif_f (by omega), cif_f (by omega)]), rfl, rfl⟩
          · refine o_lload_n (n := 55) rfl rfl rfl ?_
            refine o_goto (t := 59) rfl rfl ?_
            refine o_lret rfl ?_
            first | (exfalso; omega; done) | exact ⟨by unfold jn; first | (rw [cif_t (by omega), cif_t (by omega)]) | (rw [cif_t (by omega), cif_f (by omega)]) | (rw [cif_f (by omega), cif_t (by omega)]) | (rw [cif_f (by omega), cif_f (by omega)]), rfl, rfl⟩
        · refine o_iconst (n := 47) rfl rfl ?_
          refine o_goto (t := 51) rfl rfl ?_
          refine o_icmp_ne (n := 54) (t := 58) rfl rfl rfl (fun h51 => ?_) (fun h51 => ?_)
          · refine o_lload_n (n := 59) rfl rfl rfl ?_
            refine o_lret rfl ?_
            first | (exfalso; omega; done) | exact ⟨by unfold jn; first | (rw [cif_t (by omega), cif_t (by omega)]) | (rw [cif_t (by omega), cif_f (by omega)]) | (rw [cif_f (by omega), cif_t (by omega)]) | (rw [cif_f (by omega), cif_f (by omega)]), rfl, rfl⟩
          · refine o_lload_n (n := 55) rfl rfl rfl ?_
            refine o_goto (t := 59) rfl rfl ?_
            refine o_lret rfl ?_
            first | (exfalso; omega; done) | exact ⟨by unfold jn; first | (rw [cif_t (by omega), cif_t (by omega)]) | (rw [cif_t (by omega), cif_f (by omega)]) | (rw [cif_f (by omega), cif_t (by omega)]) | (rw [cif_f (by omega), cif_f (by omega)]), rfl, rfl⟩
    · refine o_lload_n (n := 17) rfl rfl rfl ?_
      refine o_ldc2_w (n := 20) rfl rfl ?_
      refine o_lcmp_ne (n := 24) (t := 28) rfl rfl rfl rfl (fun h20 => ?_) (fun h20 => ?_)
      · refine o_lload_n (n := 29) rfl rfl rfl ?_
        refine o_lret rfl ?_
        first | (exfalso; omega; done) | exact ⟨by unfold jn; first | (rw [cif_t (by omega), cif_t (by omega)]) | (rw [cif_t (by omega), cif_f (by omega)]) | (rw [cif_f (by omega), cif_t (by omega)]) | (rw [cif_f (by omega), cif_f (by omega)]), rfl, rfl⟩
      · refine o_lload_n (n := 25) rfl rfl rfl ?_
        refine o_goto (t := 29) rfl rfl ?_
        refine o_lret rfl ?_
        first | (exfalso; omega; done) | exact ⟨by unfold jn; first | (rw [cif_t (by omega), cif_t (by omega)]) | (rw [cif_t (by omega), cif_f (by omega)]) | (rw [cif_f (by omega), cif_t (by omega)]) | (rw [cif_f (by omega), cif_f (by omega)]), rfl, rfl⟩
/-- less by a ring -/
def ls8 (ρ a b : Int) : Prop := (ρ ≠ 0 ∧ (a = -1 ∨ b = -1) ∧ a ≠ b ∧ ((ρ = 1 ∧ b = -1) ∨ (ρ ≠ 1 ∧ a = -1))) ∨ (¬ (ρ ≠ 0 ∧ (a = -1 ∨ b = -1)) ∧ a < b)
theorem c8_isLess (ρ a b : Int) : Rt 138 [vI ρ, vL a, vL b] g r (some (vI (bi (ls8 ρ a b)))) g r := by
  refine rt_of ?_
  show Ou 138 0 [vI ρ, vL a, vN, vL b, vN] [] g r _
  refine o_iload_n (n := 1) rfl rfl rfl ?_
  refine o_if_eq (n := 4) (t := 56) rfl rfl rfl (fun h1 => ?_) (fun h1 => ?_)
  · refine o_lload_n (n := 57) rfl rfl rfl ?_
    refine o_lload_n (n := 58) rfl rfl rfl ?_
    refine o_lcmp_ge (n := 62) (t := 66) rfl rfl rfl rfl (fun h58 => ?_) (fun h58 => ?_)
    · refine o_iconst (n := 67) rfl rfl ?_
      refine o_zret rfl rfl (by omega) ?_
      first | (exfalso; omega; done) | exact ⟨by unfold ls8; first | rw [bi_f (by omega)] | rw [bi_t (by omega)], rfl, rfl⟩
    · refine o_iconst (n := 63) rfl rfl ?_
      refine o_goto (t := 67) rfl rfl ?_
      refine o_zret rfl rfl (by omega) ?_
      first | (exfalso; omega; done) | exact ⟨by unfold ls8; first | rw [bi_f (by omega)] | rw [bi_t (by omega)], rfl, rfl⟩
  · refine o_lload_n (n := 5) rfl rfl rfl ?_
    refine o_ldc2_w (n := 8) rfl rfl ?_
    refine o_lcmp_eq (n := 12) (t := 20) rfl rfl rfl rfl (fun h8 => ?_) (fun h8 => ?_)
    · refine o_lload_n (n := 21) rfl rfl rfl ?_
      refine o_lload_n (n := 22) rfl rfl rfl ?_
      refine o_lcmp_eq (n := 26) (t := 54) rfl rfl rfl rfl (fun h22 => ?_) (fun h22 => ?_)
      · refine o_iconst (n := 55) rfl rfl ?_
        refine o_zret rfl rfl (by omega) ?_
        first | (exfalso; omega; done) | exact ⟨by unfold ls8; first | rw [bi_f (by omega)] | rw [bi_t (by omega)], rfl, rfl⟩
      · refine o_iload_n (n := 27) rfl rfl rfl ?_
        refine o_iconst (n := 28) rfl rfl ?_
        refine o_icmp_ne (n := 31) (t := 42) rfl rfl rfl (fun h28 => ?_) (fun h28 => ?_)
        · refine o_lload_n (n := 43) rfl rfl rfl ?_
          refine o_ldc2_w (n := 46) rfl rfl ?_
          refine o_lcmp_ne (n := 50) (t := 54) rfl rfl rfl rfl (fun h46 => ?_) (fun h46 => ?_)
          · refine o_iconst (n := 55) rfl rfl ?_
            refine o_zret rfl rfl (by omega) ?_
            first | (exfalso; omega; done) | exact ⟨by unfold ls8; first | rw [bi_f (by omega)] | rw [bi_t (by omega)], rfl, rfl⟩
          · refine o_iconst (n := 51) rfl rfl ?_
            refine o_goto (t := 55) rfl rfl ?_
            refine o_zret rfl rfl (by omega) ?_
            first | (exfalso; omega; done) | exact ⟨by unfold ls8; first | rw [bi_f (by omega)] | rw [bi_t (by omega)], rfl, rfl⟩
        · refine o_lload_n (n := 32) rfl rfl rfl ?_
          refine o_ldc2_w (n := 35) rfl rfl ?_
          refine o_lcmp_ne (n := 39) (t := 54) rfl rfl rfl rfl (fun h35 => ?_) (fun h35 => ?_)
          · refine o_iconst (n := 55) rfl rfl ?_
            refine o_zret rfl rfl (by omega) ?_
            first | (exfalso; omega; done) | exact ⟨by unfold ls8; first | rw [bi_f (by omega)] | rw [bi_t (by omega)], rfl, rfl⟩
          · refine o_goto (t := 50) rfl rfl ?_
            refine o_iconst (n := 51) rfl rfl ?_
            refine o_goto (t := 55) rfl rfl ?_
            refine o_zret rfl rfl (by omega) ?_
            first | (exfalso; omega; done) | exact ⟨by unfold ls8; first | rw [bi_f (by omega)] | rw [bi_t (by omega)], rfl, rfl⟩
    · refine o_lload_n (n := 13) rfl rfl rfl ?_
      refine o_ldc2_w (n := 16) rfl rfl ?_
      refine o_lcmp_ne (n := 20) (t := 56) rfl rfl rfl rfl (fun h16 => ?_) (fun h16 => ?_)
      · refine o_lload_n (n := 57) rfl rfl rfl ?_
        refine o_lload_n (n := 58) rfl rfl rfl ?_
        refine o_lcmp_ge (n := 62) (t := 66) rfl rfl rfl rfl (fun h58 => ?_) (fun h58 => ?_)
        · refine o_iconst (n := 67) rfl rfl ?_
          refine o_zret rfl rfl (by omega) ?_
          first | (exfalso; omega; done) | exact ⟨by unfold ls8; first | rw [bi_f (by omega)] | rw [bi_t (by omega)], rfl, rfl⟩
        · refine o_iconst (n := 63) rfl rfl ?_
          refine o_goto (t := 67) rfl rfl ?_
          refine o_zret rfl rfl (by omega) ?_
          first | (exfalso; omega; done) | exact ⟨by unfold ls8; first | rw [bi_f (by omega)] | rw [bi_t (by omega)], rfl, rfl⟩
      · refine o_lload_n (n := 21) rfl rfl rfl ?_
        refine o_lload_n (n := 22) rfl rfl rfl ?_
        refine o_lcmp_eq (n := 26) (t := 54) rfl rfl rfl rfl (fun h22 => ?_) (fun h22 => ?_)
        · refine o_iconst (n := 55) rfl rfl ?_
          refine o_zret rfl rfl (by omega) ?_
          first | (exfalso; omega; done) | exact ⟨by unfold ls8; first | rw [bi_f (by omega)] | rw [bi_t (by omega)], rfl, rfl⟩
        · refine o_iload_n (n := 27) rfl rfl rfl ?_
          refine o_iconst (n := 28) rfl rfl ?_
          refine o_icmp_ne (n := 31) (t := 42) rfl rfl rfl (fun h28 => ?_) (fun h28 => ?_)
          · refine o_lload_n (n := 43) rfl rfl rfl ?_
            refine o_ldc2_w (n := 46) rfl rfl ?_
            refine o_lcmp_ne (n := 50) (t := 54) rfl rfl rfl rfl (fun h46 => ?_) (fun h46 => ?_)
            · refine o_iconst (n := 55) rfl rfl ?_
              refine o_zret rfl rfl (by omega) ?_
              first | (exfalso; omega; done) | exact ⟨by unfold ls8; first | rw [bi_f (by omega)] | rw [bi_t (by omega)], rfl, rfl⟩
            · refine o_iconst (n := 51) rfl rfl ?_
              refine o_goto (t := 55) rfl rfl ?_
              refine o_zret rfl rfl (by omega) ?_
              first | (exfalso; omega; done) | exact ⟨by unfold ls8; first | rw [bi_f (by omega)] | rw [bi_t (by omega)], rfl, rfl⟩
          · refine o_lload_n (n := 32) rfl rfl rfl ?_
            refine o_ldc2_w (n := 35) rfl rfl ?_
            refine o_lcmp_ne (n := 39) (t := 54) rfl rfl rfl rfl (fun h35 => ?_) (fun h35 => ?_)
            · refine o_iconst (n := 55) rfl rfl ?_
              refine o_zret rfl rfl (by omega) ?_
              first | (exfalso; omega; done) | exact ⟨by unfold ls8; first | rw [bi_f (by omega)] | rw [bi_t (by omega)], rfl, rfl⟩
            · refine o_goto (t := 50) rfl rfl ?_
              refine o_iconst (n := 51) rfl rfl ?_
              refine o_goto (t := 55) rfl rfl ?_
              refine o_zret rfl rfl (by omega) ?_
              first | (exfalso; omega; done) | exact ⟨by unfold ls8; first | rw [bi_f (by omega)] | rw [bi_t (by omega)], rfl, rfl⟩
theorem c7_isRule (i : Int) : Rt 87 [vR 7 0, vI i] g r (some (vI (bi (0 ≤ i ∧ i < g 7 0 10)))) g r := by
  refine rt_of ?_
  show Ou 87 0 [vR 7 0, vI i] [] g r _
  refine o_iload_n (n := 1) rfl rfl rfl ?_
  refine o_if_lt (n := 4) (t := 16) rfl rfl rfl (fun h1 => ?_) (fun h1 => ?_)
  · refine o_iconst (n := 17) rfl rfl ?_
    refine o_zret rfl rfl (by omega) ?_
    first | (exfalso; omega; done) | exact ⟨by first | rw [bi_f (by omega)] | rw [bi_t (by omega)], rfl, rfl⟩
  · refine o_iload_n (n := 5) rfl rfl rfl ?_
    refine o_aload_n (n := 6) rfl rfl rfl ?_
    refine o_geti (n := 9) rfl rfl rfl rfl rfl ?_
    refine o_icmp_ge (n := 12) (t := 16) rfl rfl rfl (fun h9 => ?_) (fun h9 => ?_)
    · refine o_iconst (n := 17) rfl rfl ?_
      refine o_zret rfl rfl (by omega) ?_
      first | (exfalso; omega; done) | exact ⟨by first | rw [bi_f (by omega)] | rw [bi_t (by omega)], rfl, rfl⟩
    · refine o_iconst (n := 13) rfl rfl ?_
      refine o_goto (t := 17) rfl rfl ?_
      refine o_zret rfl rfl (by omega) ?_
      first | (exfalso; omega; done) | exact ⟨by first | rw [bi_f (by omega)] | rw [bi_t (by omega)], rfl, rfl⟩
theorem c7_isSide (s : Int) : Rt 88 [vI s] g r (some (vI (bi (s = 0 ∨ s = 1)))) g r := by
  refine rt_of ?_
  show Ou 88 0 [vI s] [] g r _
  refine o_iload_n (n := 1) rfl rfl rfl ?_
  refine o_if_eq (n := 4) (t := 9) rfl rfl rfl (fun h1 => ?_) (fun h1 => ?_)
  · refine o_iconst (n := 10) rfl rfl ?_
    refine o_goto (t := 14) rfl rfl ?_
    refine o_zret rfl rfl (by omega) ?_
    first | (exfalso; omega; done) | exact ⟨by first | rw [bi_f (by omega)] | rw [bi_t (by omega)], rfl, rfl⟩
  · refine o_iload_n (n := 5) rfl rfl rfl ?_
    refine o_iconst (n := 6) rfl rfl ?_
    refine o_icmp_ne (n := 9) (t := 13) rfl rfl rfl (fun h6 => ?_) (fun h6 => ?_)
    · refine o_iconst (n := 14) rfl rfl ?_
      refine o_zret rfl rfl (by omega) ?_
      first | (exfalso; omega; done) | exact ⟨by first | rw [bi_f (by omega)] | rw [bi_t (by omega)], rfl, rfl⟩
    · refine o_iconst (n := 10) rfl rfl ?_
      refine o_goto (t := 14) rfl rfl ?_
      refine o_zret rfl rfl (by omega) ?_
      first | (exfalso; omega; done) | exact ⟨by first | rw [bi_f (by omega)] | rw [bi_t (by omega)], rfl, rfl⟩
theorem c7_isSign (s : Int) : Rt 89 [vR 7 0, vI s] g r (some (vI (bi (0 ≤ s ∧ s < g 7 0 9)))) g r := by
  refine rt_of ?_
  show Ou 89 0 [vR 7 0, vI s] [] g r _
  refine o_iload_n (n := 1) rfl rfl rfl ?_
  refine o_if_lt (n := 4) (t := 16) rfl rfl rfl (fun h1 => ?_) (fun h1 => ?_)
  · refine o_iconst (n := 17) rfl rfl ?_
    refine o_zret rfl rfl (by omega) ?_
    first | (exfalso; omega; done) | exact ⟨by first | rw [bi_f (by omega)] | rw [bi_t (by omega)], rfl, rfl⟩
  · refine o_iload_n (n := 5) rfl rfl rfl ?_
    refine o_aload_n (n := 6) rfl rfl rfl ?_
    refine o_geti (n := 9) rfl rfl rfl rfl rfl ?_
    refine o_icmp_ge (n := 12) (t := 16) rfl rfl rfl (fun h9 => ?_) (fun h9 => ?_)
    · refine o_iconst (n := 17) rfl rfl ?_
      refine o_zret rfl rfl (by omega) ?_
      first | (exfalso; omega; done) | exact ⟨by first | rw [bi_f (by omega)] | rw [bi_t (by omega)], rfl, rfl⟩
    · refine o_iconst (n := 13) rfl rfl ?_
      refine o_goto (t := 17) rfl rfl ?_
      refine o_zret rfl rfl (by omega) ?_
      first | (exfalso; omega; done) | exact ⟨by first | rw [bi_f (by omega)] | rw [bi_t (by omega)], rfl, rfl⟩
theorem c7_isPlace (s x y : Int) : Rt 90 [vR 7 0, vI s, vI x, vI y] g r (some (vI (bi ((0 ≤ s ∧ s < g 7 0 9) ∧ (0 ≤ x ∧ x < 3) ∧ (0 ≤ y ∧ y < 3))))) g r := by
  refine rt_of ?_
  show Ou 90 0 [vR 7 0, vI s, vI x, vI y] [] g r _
  refine o_aload_n (n := 1) rfl rfl rfl ?_
  refine o_iload_n (n := 2) rfl rfl rfl ?_
  refine o_invi (n := 5) rfl rfl rfl rfl rfl rfl rfl rfl rfl rfl (c7_isSign _) ?_
  refine o_ifb_eq (n := 8) (t := 30) rfl rfl rfl (fun h5 => ?_) (fun h5 => ?_)
  · refine o_iconst (n := 31) rfl rfl ?_
    refine o_zret rfl rfl (by omega) ?_
    first | (exfalso; omega; done) | exact ⟨by first | rw [bi_f (by omega)] | rw [bi_t (by omega)], rfl, rfl⟩
  · refine o_iload_n (n := 9) rfl rfl rfl ?_
    refine o_if_lt (n := 12) (t := 30) rfl rfl rfl (fun h9 => ?_) (fun h9 => ?_)
    · refine o_iconst (n := 31) rfl rfl ?_
      refine o_zret rfl rfl (by omega) ?_
      first | (exfalso; omega; done) | exact ⟨by first | rw [bi_f (by omega)] | rw [bi_t (by omega)], rfl, rfl⟩
    · refine o_iload_n (n := 13) rfl rfl rfl ?_
      refine o_iconst (n := 14) rfl rfl ?_
      refine o_icmp_ge (n := 17) (t := 30) rfl rfl rfl (fun h14 => ?_) (fun h14 => ?_)
      · refine o_iconst (n := 31) rfl rfl ?_
        refine o_zret rfl rfl (by omega) ?_
        first | (exfalso; omega; done) | exact ⟨by first | rw [bi_f (by omega)] | rw [bi_t (by omega)], rfl, rfl⟩
      · refine o_iload_n (n := 18) rfl rfl rfl ?_
        refine o_if_lt (n := 21) (t := 30) rfl rfl rfl (fun h18 => ?_) (fun h18 => ?_)
        · refine o_iconst (n := 31) rfl rfl ?_
          refine o_zret rfl rfl (by omega) ?_
          first | (exfalso; omega; done) | exact ⟨by first | rw [bi_f (by omega)] | rw [bi_t (by omega)], rfl, rfl⟩
        · refine o_iload_n (n := 22) rfl rfl rfl ?_
          refine o_iconst (n := 23) rfl rfl ?_
          refine o_icmp_ge (n := 26) (t := 30) rfl rfl rfl (fun h23 => ?_) (fun h23 => ?_)
          · refine o_iconst (n := 31) rfl rfl ?_
            refine o_zret rfl rfl (by omega) ?_
            first | (exfalso; omega; done) | exact ⟨by first | rw [bi_f (by omega)] | rw [bi_t (by omega)], rfl, rfl⟩
          · refine o_iconst (n := 27) rfl rfl ?_
            refine o_goto (t := 31) rfl rfl ?_
            refine o_zret rfl rfl (by omega) ?_
            first | (exfalso; omega; done) | exact ⟨by first | rw [bi_f (by omega)] | rw [bi_t (by omega)], rfl, rfl⟩
theorem c7_isEntry (v : Int) : Rt 91 [vI v] g r (some (vI (bi (-1 ≤ v ∧ v ≤ 999)))) g r := by
  refine rt_of ?_
  show Ou 91 0 [vI v] [] g r _
  refine o_iload_n (n := 1) rfl rfl rfl ?_
  refine o_iconst (n := 2) rfl rfl ?_
  refine o_icmp_lt (n := 5) (t := 16) rfl rfl rfl (fun h2 => ?_) (fun h2 => ?_)
  · refine o_iconst (n := 17) rfl rfl ?_
    refine o_zret rfl rfl (by omega) ?_
    first | (exfalso; omega; done) | exact ⟨by first | rw [bi_f (by omega)] | rw [bi_t (by omega)], rfl, rfl⟩
  · refine o_iload_n (n := 6) rfl rfl rfl ?_
    refine o_sipush (n := 9) rfl rfl ?_
    refine o_icmp_gt (n := 12) (t := 16) rfl rfl rfl (fun h9 => ?_) (fun h9 => ?_)
    · refine o_iconst (n := 17) rfl rfl ?_
      refine o_zret rfl rfl (by omega) ?_
      first | (exfalso; omega; done) | exact ⟨by first | rw [bi_f (by omega)] | rw [bi_t (by omega)], rfl, rfl⟩
    · refine o_iconst (n := 13) rfl rfl ?_
      refine o_goto (t := 17) rfl rfl ?_
      refine o_zret rfl rfl (by omega) ?_
      first | (exfalso; omega; done) | exact ⟨by first | rw [bi_f (by omega)] | rw [bi_t (by omega)], rfl, rfl⟩
theorem c7_isStage (k : Int) : Rt 92 [vR 7 0, vI k] g r (some (vI (bi (0 ≤ k ∧ k < g 7 0 11)))) g r := by
  refine rt_of ?_
  show Ou 92 0 [vR 7 0, vI k] [] g r _
  refine o_iload_n (n := 1) rfl rfl rfl ?_
  refine o_if_lt (n := 4) (t := 16) rfl rfl rfl (fun h1 => ?_) (fun h1 => ?_)
  · refine o_iconst (n := 17) rfl rfl ?_
    refine o_zret rfl rfl (by omega) ?_
    first | (exfalso; omega; done) | exact ⟨by first | rw [bi_f (by omega)] | rw [bi_t (by omega)], rfl, rfl⟩
  · refine o_iload_n (n := 5) rfl rfl rfl ?_
    refine o_aload_n (n := 6) rfl rfl rfl ?_
    refine o_geti (n := 9) rfl rfl rfl rfl rfl ?_
    refine o_icmp_ge (n := 12) (t := 16) rfl rfl rfl (fun h9 => ?_) (fun h9 => ?_)
    · refine o_iconst (n := 17) rfl rfl ?_
      refine o_zret rfl rfl (by omega) ?_
      first | (exfalso; omega; done) | exact ⟨by first | rw [bi_f (by omega)] | rw [bi_t (by omega)], rfl, rfl⟩
    · refine o_iconst (n := 13) rfl rfl ?_
      refine o_goto (t := 17) rfl rfl ?_
      refine o_zret rfl rfl (by omega) ?_
      first | (exfalso; omega; done) | exact ⟨by first | rw [bi_f (by omega)] | rw [bi_t (by omega)], rfl, rfl⟩
theorem c7_isSheet (s : Int) : Rt 93 [vI s] g r (some (vI (bi (0 ≤ s ∧ s < 4)))) g r := by
  refine rt_of ?_
  show Ou 93 0 [vI s] [] g r _
  refine o_iload_n (n := 1) rfl rfl rfl ?_
  refine o_if_lt (n := 4) (t := 13) rfl rfl rfl (fun h1 => ?_) (fun h1 => ?_)
  · refine o_iconst (n := 14) rfl rfl ?_
    refine o_zret rfl rfl (by omega) ?_
    first | (exfalso; omega; done) | exact ⟨by first | rw [bi_f (by omega)] | rw [bi_t (by omega)], rfl, rfl⟩
  · refine o_iload_n (n := 5) rfl rfl rfl ?_
    refine o_iconst (n := 6) rfl rfl ?_
    refine o_icmp_ge (n := 9) (t := 13) rfl rfl rfl (fun h6 => ?_) (fun h6 => ?_)
    · refine o_iconst (n := 14) rfl rfl ?_
      refine o_zret rfl rfl (by omega) ?_
      first | (exfalso; omega; done) | exact ⟨by first | rw [bi_f (by omega)] | rw [bi_t (by omega)], rfl, rfl⟩
    · refine o_iconst (n := 10) rfl rfl ?_
      refine o_goto (t := 14) rfl rfl ?_
      refine o_zret rfl rfl (by omega) ?_
      first | (exfalso; omega; done) | exact ⟨by first | rw [bi_f (by omega)] | rw [bi_t (by omega)], rfl, rfl⟩
theorem c7_isForm (s : Int) : Rt 94 [vI s] g r (some (vI (bi (0 ≤ s ∧ s ≤ 2)))) g r := by
  refine rt_of ?_
  show Ou 94 0 [vI s] [] g r _
  refine o_iload_n (n := 1) rfl rfl rfl ?_
  refine o_if_lt (n := 4) (t := 13) rfl rfl rfl (fun h1 => ?_) (fun h1 => ?_)
  · refine o_iconst (n := 14) rfl rfl ?_
    refine o_zret rfl rfl (by omega) ?_
    first | (exfalso; omega; done) | exact ⟨by first | rw [bi_f (by omega)] | rw [bi_t (by omega)], rfl, rfl⟩
  · refine o_iload_n (n := 5) rfl rfl rfl ?_
    refine o_iconst (n := 6) rfl rfl ?_
    refine o_icmp_gt (n := 9) (t := 13) rfl rfl rfl (fun h6 => ?_) (fun h6 => ?_)
    · refine o_iconst (n := 14) rfl rfl ?_
      refine o_zret rfl rfl (by omega) ?_
      first | (exfalso; omega; done) | exact ⟨by first | rw [bi_f (by omega)] | rw [bi_t (by omega)], rfl, rfl⟩
    · refine o_iconst (n := 10) rfl rfl ?_
      refine o_goto (t := 14) rfl rfl ?_
      refine o_zret rfl rfl (by omega) ?_
      first | (exfalso; omega; done) | exact ⟨by first | rw [bi_f (by omega)] | rw [bi_t (by omega)], rfl, rfl⟩
theorem c7_found (f : Int) (h0 : 0 ≤ f) (h1 : f ≤ 5) : Rt 86 [vR 7 0, vI f] g r (some (vI (-10 - f))) (gset g 7 0 13 f) r := by
  refine rt_of ?_
  show Ou 86 0 [vR 7 0, vI f] [] g r _
  refine o_aload_n (n := 1) rfl rfl rfl ?_
  refine o_iload_n (n := 2) rfl rfl rfl ?_
  refine o_puti (n := 5) rfl rfl rfl rfl rfl ?_
  refine o_bipush (n := 7) rfl rfl ?_
  refine o_iload_n (n := 8) rfl rfl rfl ?_
  refine o_isub (n := 9) rfl rfl (by omega) ?_
  refine o_iret rfl rfl ?_
  first | (exfalso; omega; done) | exact ⟨rfl, rfl, rfl⟩
theorem c7_faultAnswer (f : Int) (h0 : 0 ≤ f) (h1 : f ≤ 100) : Rt 85 [vI f] g r (some (vI (-1000 - f))) g r := by
  refine rt_of ?_
  show Ou 85 0 [vI f] [] g r _
  refine o_sipush (n := 3) rfl rfl ?_
  refine o_iload_n (n := 4) rfl rfl rfl ?_
  refine o_isub (n := 5) rfl rfl (by omega) ?_
  refine o_iret rfl rfl ?_
  first | (exfalso; omega; done) | exact ⟨rfl, rfl, rfl⟩
theorem c7_mix (h x : Int) : Rt 83 [vL h, vI x] g r (some (vL (am_wl (am_wl (31 * h) + x)))) g r := by
  refine rt_of ?_
  show Ou 83 0 [vL h, vN, vI x] [] g r _
  refine o_ldc2_w (n := 3) rfl rfl ?_
  refine o_lload_n (n := 4) rfl rfl rfl ?_
  refine o_lmul (n := 5) rfl rfl ?_
  refine o_iload_n (n := 6) rfl rfl rfl ?_
  refine o_i2l (n := 7) rfl rfl ?_
  refine o_ladd (n := 8) rfl rfl ?_
  refine o_lret rfl ?_
  first | (exfalso; omega; done) | exact ⟨rfl, rfl, rfl⟩
theorem c0_entryAt (hS : am_St r) (d s x y : Int) (hd : 0 ≤ d) (hd1 : d < 10) (h0 : 0 ≤ s) (h1 : s < 4) (h2 : 0 ≤ x) (h3 : x < 3) (h4 : 0 ≤ y) (h5 : y < 3) : Rt 2 [vR 0 d, vI s, vI x, vI y] g r (some (vI (g 9 d (s * 9 + x * 3 + y)))) g r := by
  refine rt_of ?_
  show Ou 2 0 [vR 0 d, vI s, vI x, vI y] [] g r _
  refine o_aload_n (n := 1) rfl rfl rfl ?_
  refine of_0_2 (n := 4) hS rfl rfl (by omega) (by omega) ?_
  refine o_iload_n (n := 5) rfl rfl rfl ?_
  refine o_bipush (n := 7) rfl rfl ?_
  refine o_imul (n := 8) rfl rfl (by omega) ?_
  refine o_iload_n (n := 9) rfl rfl rfl ?_
  refine o_iconst (n := 10) rfl rfl ?_
  refine o_imul (n := 11) rfl rfl (by omega) ?_
  refine o_iadd (n := 12) rfl rfl (by omega) ?_
  refine o_iload_n (n := 13) rfl rfl rfl ?_
  refine o_iadd (n := 14) rfl rfl (by omega) ?_
  refine o_iald (n := 15) (L := 36) rfl rfl (ok_9 (by omega) (by omega)) rfl rfl (by omega) (by omega) ?_
  refine o_iret rfl rfl ?_
  first | (exfalso; omega; done) | exact ⟨rfl, rfl, rfl⟩
theorem c0_tell (hS : am_St r) (d s x y v : Int) (hd : 0 ≤ d) (hd1 : d < 10) (h0 : 0 ≤ s) (h1 : s < 4) (h2 : 0 ≤ x) (h3 : x < 3) (h4 : 0 ≤ y) (h5 : y < 3) : Rt 3 [vR 0 d, vI s, vI x, vI y, vI v] g r none (gset g 9 d (s * 9 + x * 3 + y) v) r := by
  refine rt_of ?_
  show Ou 3 0 [vR 0 d, vI s, vI x, vI y, vI v] [] g r _
  refine o_aload_n (n := 1) rfl rfl rfl ?_
  refine of_0_2 (n := 4) hS rfl rfl (by omega) (by omega) ?_
  refine o_iload_n (n := 5) rfl rfl rfl ?_
  refine o_bipush (n := 7) rfl rfl ?_
  refine o_imul (n := 8) rfl rfl (by omega) ?_
  refine o_iload_n (n := 9) rfl rfl rfl ?_
  refine o_iconst (n := 10) rfl rfl ?_
  refine o_imul (n := 11) rfl rfl (by omega) ?_
  refine o_iadd (n := 12) rfl rfl (by omega) ?_
  refine o_iload_n (n := 13) rfl rfl rfl ?_
  refine o_iadd (n := 14) rfl rfl (by omega) ?_
  refine o_iload (n := 16) rfl rfl rfl ?_
  refine o_iast (n := 17) (L := 36) rfl rfl (ok_9 (by omega) (by omega)) rfl rfl (by omega) (by omega) ?_
  refine o_vret rfl ?_
  first | (exfalso; omega; done) | exact ⟨rfl, rfl, rfl⟩
theorem c0_counts (d x : Int) (hd : 0 ≤ d) (hd1 : d < 10) : Rt 4 [vR 0 d, vI x] g r (some (vI (bi (0 ≤ x ∧ x < g 0 d 1)))) g r := by
  refine rt_of ?_
  show Ou 4 0 [vR 0 d, vI x] [] g r _
  refine o_iload_n (n := 1) rfl rfl rfl ?_
  refine o_if_lt (n := 4) (t := 16) rfl rfl rfl (fun h1 => ?_) (fun h1 => ?_)
  · refine o_iconst (n := 17) rfl rfl ?_
    refine o_zret rfl rfl (by omega) ?_
    first | (exfalso; omega; done) | exact ⟨by first | rw [bi_f (by omega)] | rw [bi_t (by omega)], rfl, rfl⟩
  · refine o_iload_n (n := 5) rfl rfl rfl ?_
    refine o_aload_n (n := 6) rfl rfl rfl ?_
    refine o_geti (n := 9) rfl rfl rfl (ok_0 (by omega) (by omega)) rfl ?_
    refine o_icmp_ge (n := 12) (t := 16) rfl rfl rfl (fun h9 => ?_) (fun h9 => ?_)
    · refine o_iconst (n := 17) rfl rfl ?_
      refine o_zret rfl rfl (by omega) ?_
      first | (exfalso; omega; done) | exact ⟨by first | rw [bi_f (by omega)] | rw [bi_t (by omega)], rfl, rfl⟩
    · refine o_iconst (n := 13) rfl rfl ?_
      refine o_goto (t := 17) rfl rfl ?_
      refine o_zret rfl rfl (by omega) ?_
      first | (exfalso; omega; done) | exact ⟨by first | rw [bi_f (by omega)] | rw [bi_t (by omega)], rfl, rfl⟩
theorem c0_lowestDigit (d : Int) (hd : 0 ≤ d) (hd1 : d < 10) : Rt 8 [vR 0 d] g r (some (vI (cif (g 0 d 0 = 0) 0 (-1)))) g r := by
  refine rt_of ?_
  show Ou 8 0 [vR 0 d] [] g r _
  refine o_aload_n (n := 1) rfl rfl rfl ?_
  refine o_geti (n := 4) rfl rfl rfl (ok_0 (by omega) (by omega)) rfl ?_
  refine o_if_ne (n := 7) (t := 11) rfl rfl rfl (fun h4 => ?_) (fun h4 => ?_)
  · refine o_iconst (n := 12) rfl rfl ?_
    refine o_iret rfl rfl ?_
    first | (exfalso; omega; done) | exact ⟨by first | (rw [cif_f (by omega)]) | (rw [cif_t (by omega)]), rfl, rfl⟩
  · refine o_iconst (n := 8) rfl rfl ?_
    refine o_goto (t := 12) rfl rfl ?_
    refine o_iret rfl rfl ?_
    first | (exfalso; omega; done) | exact ⟨by first | (rw [cif_f (by omega)]) | (rw [cif_t (by omega)]), rfl, rfl⟩
theorem c0_rank (d v : Int) (hd : 0 ≤ d) (hd1 : d < 10) : Rt 9 [vR 0 d, vI v] g r (some (vI (cif (g 0 d 0 = 1 ∧ v = -1) 2147483647 v))) g r := by
  refine rt_of ?_
  show Ou 9 0 [vR 0 d, vI v] [] g r _
  refine o_aload_n (n := 1) rfl rfl rfl ?_
  refine o_geti (n := 4) rfl rfl rfl (ok_0 (by omega) (by omega)) rfl ?_
  refine o_iconst (n := 5) rfl rfl ?_
  refine o_icmp_ne (n := 8) (t := 18) rfl rfl rfl (fun h5 => ?_) (fun h5 => ?_)
  · refine o_iload_n (n := 19) rfl rfl rfl ?_
    refine o_iret rfl rfl ?_
    first | (exfalso; omega; done) | exact ⟨by first | (rw [cif_f (by omega)]) | (rw [cif_t (by omega)]), rfl, rfl⟩
  · refine o_iload_n (n := 9) rfl rfl rfl ?_
    refine o_iconst (n := 10) rfl rfl ?_
    refine o_icmp_ne (n := 13) (t := 18) rfl rfl rfl (fun h10 => ?_) (fun h10 => ?_)
    · refine o_iload_n (n := 19) rfl rfl rfl ?_
      refine o_iret rfl rfl ?_
      first | (exfalso; omega; done) | exact ⟨by first | (rw [cif_f (by omega)]) | (rw [cif_t (by omega)]), rfl, rfl⟩
    · refine o_ldc (n := 15) rfl rfl ?_
      refine o_goto (t := 19) rfl rfl ?_
      refine o_iret rfl rfl ?_
      first | (exfalso; omega; done) | exact ⟨by first | (rw [cif_f (by omega)]) | (rw [cif_t (by omega)]), rfl, rfl⟩
theorem c0_takeFrom (hS : am_St r) (d e : Int) (hd : 0 ≤ d) (hd1 : d < 10) (he : 0 ≤ e) (he1 : e < 10) : Rt 1 [vR 0 d, vR 0 e] g r none (gcpy (gset (gset g 0 d 0 (g 0 e 0)) 0 d 1 (gset g 0 d 0 (g 0 e 0) 0 e 1)) 9 e 0 9 d 0 36) r := by
  refine rt_of ?_
  show Ou 1 0 [vR 0 d, vR 0 e] [] g r _
  refine o_aload_n (n := 1) rfl rfl rfl ?_
  refine o_aload_n (n := 2) rfl rfl rfl ?_
  refine o_geti (n := 5) rfl rfl rfl (ok_0 (by omega) (by omega)) rfl ?_
  refine o_puti (n := 8) rfl rfl rfl (ok_0 (by omega) (by omega)) rfl ?_
  refine o_aload_n (n := 9) rfl rfl rfl ?_
  refine o_aload_n (n := 10) rfl rfl rfl ?_
  refine o_geti (n := 13) rfl rfl rfl (ok_0 (by omega) (by omega)) rfl ?_
  refine o_puti (n := 16) rfl rfl rfl (ok_0 (by omega) (by omega)) rfl ?_
  refine o_aload_n (n := 17) rfl rfl rfl ?_
  refine of_0_2 (n := 20) hS rfl rfl (by omega) (by omega) ?_
  refine o_iconst (n := 21) rfl rfl ?_
  refine o_aload_n (n := 22) rfl rfl rfl ?_
  refine of_0_2 (n := 25) hS rfl rfl (by omega) (by omega) ?_
  refine o_iconst (n := 26) rfl rfl ?_
  refine o_aload_n (n := 27) rfl rfl rfl ?_
  refine of_0_2 (n := 30) hS rfl rfl (by omega) (by omega) ?_
  refine o_alen (n := 31) (L := 36) rfl rfl (ok_9 (by omega) (by omega)) rfl rfl ?_
  refine o_acopy (n := 34) (L1 := 36) (L2 := 36) rfl rfl (ok_9 (by omega) (by omega)) (ok_9 (by omega) (by omega)) rfl rfl rfl rfl (by omega) (by omega) (by omega) (by omega) (by omega) rfl ?_
  refine o_vret rfl ?_
  first | (exfalso; omega; done) | exact ⟨rfl, rfl, rfl⟩
theorem c1_append (hS : am_St r) (i s : Int) (hi : 0 ≤ i) (hi1 : i < 17) (h0 : 0 ≤ g 1 i 1) (h1 : g 1 i 1 < am_al 10 i) (h2 : am_al 10 i ≤ 24) : Rt 13 [vR 1 i, vI s] g r none (gset (gset g 10 i (g 1 i 1) s) 1 i 1 (g 1 i 1 + 1)) r := by
  refine rt_of ?_
  show Ou 13 0 [vR 1 i, vI s] [] g r _
  refine o_aload_n (n := 1) rfl rfl rfl ?_
  refine o_geti (n := 4) rfl rfl rfl (ok_1 (by omega) (by omega)) rfl ?_
  refine o_aload_n (n := 5) rfl rfl rfl ?_
  refine of_1_0 (n := 8) hS rfl rfl (by omega) (by omega) ?_
  refine o_alen (n := 9) rfl rfl (ok_10 (by omega) (by omega)) rfl rfl ?_
  refine o_icmp_ge (n := 12) (t := 32) rfl rfl rfl (fun h9 => ?_) (fun h9 => ?_)
  · refine o_vret rfl ?_
    first | (exfalso; omega; done) | exact ⟨rfl, rfl, rfl⟩
  · refine o_aload_n (n := 13) rfl rfl rfl ?_
    refine of_1_0 (n := 16) hS rfl rfl (by omega) (by omega) ?_
    refine o_aload_n (n := 17) rfl rfl rfl ?_
    refine o_geti (n := 20) rfl rfl rfl (ok_1 (by omega) (by omega)) rfl ?_
    refine o_iload_n (n := 21) rfl rfl rfl ?_
    refine o_iast (n := 22) rfl rfl (ok_10 (by omega) (by omega)) rfl rfl (by omega) (by omega) ?_
    refine o_aload_n (n := 23) rfl rfl rfl ?_
    refine o_dup (n := 24) rfl rfl rfl ?_
    refine o_geti (n := 27) rfl rfl rfl (ok_1 (by omega) (by omega)) rfl ?_
    refine o_iconst (n := 28) rfl rfl ?_
    refine o_iadd (n := 29) rfl rfl (show inI (g 1 i 1 + 1) by omega) ?_
    refine o_puti (n := 32) rfl rfl rfl (ok_1 (by omega) (by omega)) rfl ?_
    refine o_vret rfl ?_
    first | (exfalso; omega; done) | exact ⟨rfl, rfl, rfl⟩
theorem c1_lengthOrSign (hS : am_St r) (i k : Int) (hi : 0 ≤ i) (hi1 : i < 17) (h1 : g 1 i 1 ≤ am_al 10 i) : Rt 14 [vR 1 i, vI k] g r (some (vI (cif (k < 0) (g 1 i 1) (cif (k < g 1 i 1) (g 10 i k) (-1))))) g r := by
  refine rt_of ?_
  show Ou 14 0 [vR 1 i, vI k] [] g r _
  refine o_iload_n (n := 1) rfl rfl rfl ?_
  refine o_if_ge (n := 4) (t := 9) rfl rfl rfl (fun h1 => ?_) (fun h1 => ?_)
  · refine o_iload_n (n := 10) rfl rfl rfl ?_
    refine o_aload_n (n := 11) rfl rfl rfl ?_
    refine o_geti (n := 14) rfl rfl rfl (ok_1 (by omega) (by omega)) rfl ?_
    refine o_icmp_ge (n := 17) (t := 26) rfl rfl rfl (fun h14 => ?_) (fun h14 => ?_)
    · refine o_iconst (n := 27) rfl rfl ?_
      refine o_iret rfl rfl ?_
      first | (exfalso; omega; done) | exact ⟨by first | (rw [cif_f (by omega)]; rw [cif_f (by omega)]) | (rw [cif_f (by omega)]; rw [cif_t (by omega)]) | (rw [cif_t (by omega)]), rfl, rfl⟩
    · refine o_aload_n (n := 18) rfl rfl rfl ?_
      refine of_1_0 (n := 21) hS rfl rfl (by omega) (by omega) ?_
      refine o_iload_n (n := 22) rfl rfl rfl ?_
      refine o_iald (n := 23) rfl rfl (ok_10 (by omega) (by omega)) rfl rfl (by omega) (by omega) ?_
      refine o_goto (t := 27) rfl rfl ?_
      refine o_iret rfl rfl ?_
      first | (exfalso; omega; done) | exact ⟨by first | (rw [cif_f (by omega)]; rw [cif_f (by omega)]) | (rw [cif_f (by omega)]; rw [cif_t (by omega)]) | (rw [cif_t (by omega)]), rfl, rfl⟩
  · refine o_aload_n (n := 5) rfl rfl rfl ?_
    refine o_geti (n := 8) rfl rfl rfl (ok_1 (by omega) (by omega)) rfl ?_
    refine o_iret rfl rfl ?_
    first | (exfalso; omega; done) | exact ⟨by first | (rw [cif_f (by omega)]; rw [cif_f (by omega)]) | (rw [cif_f (by omega)]; rw [cif_t (by omega)]) | (rw [cif_t (by omega)]), rfl, rfl⟩
theorem c2_half (hS : am_St r) (q s : Int) (hq : 0 ≤ q) (hq1 : q < 8) (hs : s = 0 ∨ s = 1) : Rt 20 [vR 2 q, vI s] g r (some (vR 1 (1 + 2 * q + s))) g r := by
  refine rt_of ?_
  show Ou 20 0 [vR 2 q, vI s] [] g r _
  refine o_iload_n (n := 1) rfl rfl rfl ?_
  refine o_if_ne (n := 4) (t := 11) rfl rfl rfl (fun h1 => ?_) (fun h1 => ?_)
  · refine o_aload_n (n := 12) rfl rfl rfl ?_
    refine of_2_1 (n := 15) hS rfl rfl (by omega) (by omega) ?_
    refine o_aret rfl ?_
    first | (exfalso; omega; done) | exact ⟨by first | rw [show 1 + 2 * q + s = 1 + 2 * q by omega] | rw [show 1 + 2 * q + s = 2 + 2 * q by omega], rfl, rfl⟩
  · refine o_aload_n (n := 5) rfl rfl rfl ?_
    refine of_2_0 (n := 8) hS rfl rfl (by omega) (by omega) ?_
    refine o_goto (t := 15) rfl rfl ?_
    refine o_aret rfl ?_
    first | (exfalso; omega; done) | exact ⟨by first | rw [show 1 + 2 * q + s = 1 + 2 * q by omega] | rw [show 1 + 2 * q + s = 2 + 2 * q by omega], rfl, rfl⟩
noncomputable def lk3 (g : GI) (s f i : Int) : Int := cif (g 3 s 0 = -1) 1 (cif (g 3 s 0 ≠ f) 3 (cif (i < 0 ∨ g 3 s 1 ≤ i) 2 0))
theorem c3_findingAt (s f i : Int) (h0 : 0 ≤ s) (h1 : s < 4) : Rt 24 [vR 3 s, vI f, vI i] g r (some (vI (lk3 g s f i))) g r := by
  refine rt_of ?_
  show Ou 24 0 [vR 3 s, vI f, vI i] [] g r _
  refine o_aload_n (n := 1) rfl rfl rfl ?_
  refine o_geti (n := 4) rfl rfl rfl (ok_3 (by omega) (by omega)) rfl ?_
  refine o_iconst (n := 5) rfl rfl ?_
  refine o_icmp_ne (n := 8) (t := 10) rfl rfl rfl (fun h5 => ?_) (fun h5 => ?_)
  · refine o_aload_n (n := 11) rfl rfl rfl ?_
    refine o_geti (n := 14) rfl rfl rfl (ok_3 (by omega) (by omega)) rfl ?_
    refine o_iload_n (n := 15) rfl rfl rfl ?_
    refine o_icmp_eq (n := 18) (t := 20) rfl rfl rfl (fun h15 => ?_) (fun h15 => ?_)
    · refine o_iload_n (n := 21) rfl rfl rfl ?_
      refine o_if_lt (n := 24) (t := 32) rfl rfl rfl (fun h21 => ?_) (fun h21 => ?_)
      · refine o_iconst (n := 33) rfl rfl ?_
        refine o_goto (t := 37) rfl rfl ?_
        refine o_iret rfl rfl ?_
        first | (exfalso; omega; done) | exact ⟨by unfold lk3; first | (rw [cif_f (by omega)]; rw [cif_f (by omega)]; rw [cif_f (by omega)]) | (rw [cif_f (by omega)]; rw [cif_f (by omega)]; rw [cif_t (by omega)]) | (rw [cif_f (by omega)]; rw [cif_t (by omega)]) | (rw [cif_t (by omega)]), rfl, rfl⟩
      · refine o_iload_n (n := 25) rfl rfl rfl ?_
        refine o_aload_n (n := 26) rfl rfl rfl ?_
        refine o_geti (n := 29) rfl rfl rfl (ok_3 (by omega) (by omega)) rfl ?_
        refine o_icmp_lt (n := 32) (t := 36) rfl rfl rfl (fun h29 => ?_) (fun h29 => ?_)
        · refine o_iconst (n := 37) rfl rfl ?_
          refine o_iret rfl rfl ?_
          first | (exfalso; omega; done) | exact ⟨by unfold lk3; first | (rw [cif_f (by omega)]; rw [cif_f (by omega)]; rw [cif_f (by omega)]) | (rw [cif_f (by omega)]; rw [cif_f (by omega)]; rw [cif_t (by omega)]) | (rw [cif_f (by omega)]; rw [cif_t (by omega)]) | (rw [cif_t (by omega)]), rfl, rfl⟩
        · refine o_iconst (n := 33) rfl rfl ?_
          refine o_goto (t := 37) rfl rfl ?_
          refine o_iret rfl rfl ?_
          first | (exfalso; omega; done) | exact ⟨by unfold lk3; first | (rw [cif_f (by omega)]; rw [cif_f (by omega)]; rw [cif_f (by omega)]) | (rw [cif_f (by omega)]; rw [cif_f (by omega)]; rw [cif_t (by omega)]) | (rw [cif_f (by omega)]; rw [cif_t (by omega)]) | (rw [cif_t (by omega)]), rfl, rfl⟩
    · refine o_iconst (n := 19) rfl rfl ?_
      refine o_iret rfl rfl ?_
      first | (exfalso; omega; done) | exact ⟨by unfold lk3; first | (rw [cif_f (by omega)]; rw [cif_f (by omega)]; rw [cif_f (by omega)]) | (rw [cif_f (by omega)]; rw [cif_f (by omega)]; rw [cif_t (by omega)]) | (rw [cif_f (by omega)]; rw [cif_t (by omega)]) | (rw [cif_t (by omega)]), rfl, rfl⟩
  · refine o_iconst (n := 9) rfl rfl ?_
    refine o_iret rfl rfl ?_
    first | (exfalso; omega; done) | exact ⟨by unfold lk3; first | (rw [cif_f (by omega)]; rw [cif_f (by omega)]; rw [cif_f (by omega)]) | (rw [cif_f (by omega)]; rw [cif_f (by omega)]; rw [cif_t (by omega)]) | (rw [cif_f (by omega)]; rw [cif_t (by omega)]) | (rw [cif_t (by omega)]), rfl, rfl⟩
theorem c3_hasItems (s f n : Int) (h0 : 0 ≤ s) (h1 : s < 4) (h2 : 0 ≤ g 3 s 1) (h3 : g 3 s 1 ≤ 60) : Rt 25 [vR 3 s, vI f, vI n] g r (some (vI (bi (0 ≤ f ∧ 0 ≤ n ∧ f ≤ g 3 s 1 ∧ n ≤ g 3 s 1 - f)))) g r := by
  refine rt_of ?_
  show Ou 25 0 [vR 3 s, vI f, vI n] [] g r _
  refine o_iload_n (n := 1) rfl rfl rfl ?_
  refine o_if_lt (n := 4) (t := 30) rfl rfl rfl (fun h1 => ?_) (fun h1 => ?_)
  · refine o_iconst (n := 31) rfl rfl ?_
    refine o_zret rfl rfl (by omega) ?_
    first | (exfalso; omega; done) | exact ⟨by first | rw [bi_f (by omega)] | rw [bi_t (by omega)], rfl, rfl⟩
  · refine o_iload_n (n := 5) rfl rfl rfl ?_
    refine o_if_lt (n := 8) (t := 30) rfl rfl rfl (fun h5 => ?_) (fun h5 => ?_)
    · refine o_iconst (n := 31) rfl rfl ?_
      refine o_zret rfl rfl (by omega) ?_
      first | (exfalso; omega; done) | exact ⟨by first | rw [bi_f (by omega)] | rw [bi_t (by omega)], rfl, rfl⟩
    · refine o_iload_n (n := 9) rfl rfl rfl ?_
      refine o_aload_n (n := 10) rfl rfl rfl ?_
      refine o_geti (n := 13) rfl rfl rfl (ok_3 (by omega) (by omega)) rfl ?_
      refine o_icmp_gt (n := 16) (t := 30) rfl rfl rfl (fun h13 => ?_) (fun h13 => ?_)
      · refine o_iconst (n := 31) rfl rfl ?_
        refine o_zret rfl rfl (by omega) ?_
        first | (exfalso; omega; done) | exact ⟨by first | rw [bi_f (by omega)] | rw [bi_t (by omega)], rfl, rfl⟩
      · refine o_iload_n (n := 17) rfl rfl rfl ?_
        refine o_aload_n (n := 18) rfl rfl rfl ?_
        refine o_geti (n := 21) rfl rfl rfl (ok_3 (by omega) (by omega)) rfl ?_
        refine o_iload_n (n := 22) rfl rfl rfl ?_
        refine o_isub (n := 23) rfl rfl (by omega) ?_
        refine o_icmp_gt (n := 26) (t := 30) rfl rfl rfl (fun h23 => ?_) (fun h23 => ?_)
        · refine o_iconst (n := 31) rfl rfl ?_
          refine o_zret rfl rfl (by omega) ?_
          first | (exfalso; omega; done) | exact ⟨by first | rw [bi_f (by omega)] | rw [bi_t (by omega)], rfl, rfl⟩
        · refine o_iconst (n := 27) rfl rfl ?_
          refine o_goto (t := 31) rfl rfl ?_
          refine o_zret rfl rfl (by omega) ?_
          first | (exfalso; omega; done) | exact ⟨by first | rw [bi_f (by omega)] | rw [bi_t (by omega)], rfl, rfl⟩
theorem c3_put (hS : am_St r) (s i v : Int) (h0 : 0 ≤ s) (h1 : s < 4) (h2 : 0 ≤ i) (h3 : i < 60) : Rt 26 [vR 3 s, vI i, vI v] g r none (gset g 11 s i (ct (g 3 s 0) v)) r := by
  refine rt_of ?_
  show Ou 26 0 [vR 3 s, vI i, vI v] [] g r _
  refine o_aload_n (n := 1) rfl rfl rfl ?_
  refine of_3_2 (n := 4) hS rfl rfl (by omega) (by omega) ?_
  refine o_iload_n (n := 5) rfl rfl rfl ?_
  refine o_aload_n (n := 6) rfl rfl rfl ?_
  refine o_geti (n := 9) rfl rfl rfl (ok_3 (by omega) (by omega)) rfl ?_
  refine o_if_ne (n := 12) (t := 17) rfl rfl rfl (fun h9 => ?_) (fun h9 => ?_)
  · refine o_aload_n (n := 18) rfl rfl rfl ?_
    refine o_geti (n := 21) rfl rfl rfl (ok_3 (by omega) (by omega)) rfl ?_
    refine o_iconst (n := 22) rfl rfl ?_
    refine o_icmp_ne (n := 25) (t := 30) rfl rfl rfl (fun h22 => ?_) (fun h22 => ?_)
    · refine o_iload_n (n := 31) rfl rfl rfl ?_
      refine o_iast (n := 32) (L := 60) rfl rfl (ok_11 (by omega) (by omega)) rfl rfl (by omega) (by omega) ?_
      refine o_vret rfl ?_
      first | (exfalso; omega; done) | exact ⟨rfl, by unfold ct; first | (rw [cif_f (by omega)]; rw [cif_f (by omega)]) | (rw [cif_f (by omega)]; rw [cif_t (by omega)]) | (rw [cif_t (by omega)]), rfl⟩
    · refine o_iload_n (n := 26) rfl rfl rfl ?_
      refine o_i2s (n := 27) rfl rfl ?_
      refine o_goto (t := 31) rfl rfl ?_
      refine o_iast (n := 32) (L := 60) rfl rfl (ok_11 (by omega) (by omega)) rfl rfl (by omega) (by omega) ?_
      refine o_vret rfl ?_
      first | (exfalso; omega; done) | exact ⟨rfl, by unfold ct; first | (rw [cif_f (by omega)]; rw [cif_f (by omega)]) | (rw [cif_f (by omega)]; rw [cif_t (by omega)]) | (rw [cif_t (by omega)]), rfl⟩
  · refine o_iload_n (n := 13) rfl rfl rfl ?_
    refine o_i2b (n := 14) rfl rfl ?_
    refine o_goto (t := 31) rfl rfl ?_
    refine o_iast (n := 32) (L := 60) rfl rfl (ok_11 (by omega) (by omega)) rfl rfl (by omega) (by omega) ?_
    refine o_vret rfl ?_
    first | (exfalso; omega; done) | exact ⟨rfl, by unfold ct; first | (rw [cif_f (by omega)]; rw [cif_f (by omega)]) | (rw [cif_f (by omega)]; rw [cif_t (by omega)]) | (rw [cif_t (by omega)]), rfl⟩
theorem c5_append (hS : am_St r) (b : Int) (h0 : 0 ≤ g 5 0 1) (h1 : g 5 0 1 < 20) : Rt 29 [vR 5 0, vI b] g r none (gset (gset g 12 0 (g 5 0 1) b) 5 0 1 (g 5 0 1 + 1)) r := by
  refine rt_of ?_
  show Ou 29 0 [vR 5 0, vI b] [] g r _
  refine o_aload_n (n := 1) rfl rfl rfl ?_
  refine o_geti (n := 4) rfl rfl rfl rfl rfl ?_
  refine o_bipush (n := 6) rfl rfl ?_
  refine o_icmp_ge (n := 9) (t := 29) rfl rfl rfl (fun h6 => ?_) (fun h6 => ?_)
  · refine o_vret rfl ?_
    first | (exfalso; omega; done) | exact ⟨rfl, rfl, rfl⟩
  · refine o_aload_n (n := 10) rfl rfl rfl ?_
    refine of_5_0 (n := 13) hS rfl rfl ?_
    refine o_aload_n (n := 14) rfl rfl rfl ?_
    refine o_geti (n := 17) rfl rfl rfl rfl rfl ?_
    refine o_iload_n (n := 18) rfl rfl rfl ?_
    refine o_iast (n := 19) (L := 20) rfl rfl rfl rfl rfl (by omega) (by omega) ?_
    refine o_aload_n (n := 20) rfl rfl rfl ?_
    refine o_dup (n := 21) rfl rfl rfl ?_
    refine o_geti (n := 24) rfl rfl rfl rfl rfl ?_
    refine o_iconst (n := 25) rfl rfl ?_
    refine o_iadd (n := 26) rfl rfl (show inI (g 5 0 1 + 1) by omega) ?_
    refine o_puti (n := 29) rfl rfl rfl rfl rfl ?_
    refine o_vret rfl ?_
    first | (exfalso; omega; done) | exact ⟨rfl, rfl, rfl⟩
theorem c5_isLetter (b n : Int) (h0 : 1 ≤ n) (h1 : n ≤ 4) : Rt 35 [vI b, vI n] g r (some (vI (bi (97 ≤ b ∧ b ≤ 96 + n)))) g r := by
  refine rt_of ?_
  show Ou 35 0 [vI b, vI n] [] g r _
  refine o_iload_n (n := 1) rfl rfl rfl ?_
  refine o_bipush (n := 3) rfl rfl ?_
  refine o_icmp_lt (n := 6) (t := 18) rfl rfl rfl (fun h3 => ?_) (fun h3 => ?_)
  · refine o_iconst (n := 19) rfl rfl ?_
    refine o_zret rfl rfl (by omega) ?_
    first | (exfalso; omega; done) | exact ⟨by first | rw [bi_f (by omega)] | rw [bi_t (by omega)], rfl, rfl⟩
  · refine o_iload_n (n := 7) rfl rfl rfl ?_
    refine o_bipush (n := 9) rfl rfl ?_
    refine o_iload_n (n := 10) rfl rfl rfl ?_
    refine o_iadd (n := 11) rfl rfl (by omega) ?_
    refine o_icmp_ge (n := 14) (t := 18) rfl rfl rfl (fun h11 => ?_) (fun h11 => ?_)
    · refine o_iconst (n := 19) rfl rfl ?_
      refine o_zret rfl rfl (by omega) ?_
      first | (exfalso; omega; done) | exact ⟨by first | rw [bi_f (by omega)] | rw [bi_t (by omega)], rfl, rfl⟩
    · refine o_iconst (n := 15) rfl rfl ?_
      refine o_goto (t := 19) rfl rfl ?_
      refine o_zret rfl rfl (by omega) ?_
      first | (exfalso; omega; done) | exact ⟨by first | rw [bi_f (by omega)] | rw [bi_t (by omega)], rfl, rfl⟩
theorem c5_isArrow (b : Int) : Rt 36 [vI b] g r (some (vI (bi (b = 62 ∨ b = 61)))) g r := by
  refine rt_of ?_
  show Ou 36 0 [vI b] [] g r _
  refine o_iload_n (n := 1) rfl rfl rfl ?_
  refine o_bipush (n := 3) rfl rfl ?_
  refine o_icmp_eq (n := 6) (t := 12) rfl rfl rfl (fun h3 => ?_) (fun h3 => ?_)
  · refine o_iconst (n := 13) rfl rfl ?_
    refine o_goto (t := 17) rfl rfl ?_
    refine o_zret rfl rfl (by omega) ?_
    first | (exfalso; omega; done) | exact ⟨by first | rw [bi_f (by omega)] | rw [bi_t (by omega)], rfl, rfl⟩
  · refine o_iload_n (n := 7) rfl rfl rfl ?_
    refine o_bipush (n := 9) rfl rfl ?_
    refine o_icmp_ne (n := 12) (t := 16) rfl rfl rfl (fun h9 => ?_) (fun h9 => ?_)
    · refine o_iconst (n := 17) rfl rfl ?_
      refine o_zret rfl rfl (by omega) ?_
      first | (exfalso; omega; done) | exact ⟨by first | rw [bi_f (by omega)] | rw [bi_t (by omega)], rfl, rfl⟩
    · refine o_iconst (n := 13) rfl rfl ?_
      refine o_goto (t := 17) rfl rfl ?_
      refine o_zret rfl rfl (by omega) ?_
      first | (exfalso; omega; done) | exact ⟨by first | rw [bi_f (by omega)] | rw [bi_t (by omega)], rfl, rfl⟩
theorem c5_hasAt (hS : am_St r) (i c : Int) (h1 : g 5 0 1 ≤ 20) : Rt 33 [vR 5 0, vI i, vI c] g r (some (vI (bi (0 ≤ i ∧ i < g 5 0 1 ∧ g 12 0 i = c)))) g r := by
  refine rt_of ?_
  show Ou 33 0 [vR 5 0, vI i, vI c] [] g r _
  refine o_iload_n (n := 1) rfl rfl rfl ?_
  refine o_if_lt (n := 4) (t := 26) rfl rfl rfl (fun h1 => ?_) (fun h1 => ?_)
  · refine o_iconst (n := 27) rfl rfl ?_
    refine o_zret rfl rfl (by omega) ?_
    first | (exfalso; omega; done) | exact ⟨by first | rw [bi_f (by omega)] | rw [bi_t (by omega)], rfl, rfl⟩
  · refine o_iload_n (n := 5) rfl rfl rfl ?_
    refine o_aload_n (n := 6) rfl rfl rfl ?_
    refine o_geti (n := 9) rfl rfl rfl rfl rfl ?_
    refine o_icmp_ge (n := 12) (t := 26) rfl rfl rfl (fun h9 => ?_) (fun h9 => ?_)
    · refine o_iconst (n := 27) rfl rfl ?_
      refine o_zret rfl rfl (by omega) ?_
      first | (exfalso; omega; done) | exact ⟨by first | rw [bi_f (by omega)] | rw [bi_t (by omega)], rfl, rfl⟩
    · refine o_aload_n (n := 13) rfl rfl rfl ?_
      refine of_5_0 (n := 16) hS rfl rfl ?_
      refine o_iload_n (n := 17) rfl rfl rfl ?_
      refine o_iald (n := 18) (L := 20) rfl rfl rfl rfl rfl (by omega) (by omega) ?_
      refine o_iload_n (n := 19) rfl rfl rfl ?_
      refine o_icmp_ne (n := 22) (t := 26) rfl rfl rfl (fun h19 => ?_) (fun h19 => ?_)
      · refine o_iconst (n := 27) rfl rfl ?_
        refine o_zret rfl rfl (by omega) ?_
        first | (exfalso; omega; done) | exact ⟨by first | rw [bi_f (by omega)] | rw [bi_t (by omega)], rfl, rfl⟩
      · refine o_iconst (n := 23) rfl rfl ?_
        refine o_goto (t := 27) rfl rfl ?_
        refine o_zret rfl rfl (by omega) ?_
        first | (exfalso; omega; done) | exact ⟨by first | rw [bi_f (by omega)] | rw [bi_t (by omega)], rfl, rfl⟩
theorem c6_cellAt (hR : am_Rg r) (v x y : Int) (hv : 0 ≤ v) (hv1 : v < 2) (h2 : 0 ≤ x) (h3 : x < 3) (h4 : 0 ≤ y) (h5 : y < 3) : Rt 38 [vR 6 v, vI x, vI y] g r (some (vI (g 13 (r 6 v 1) (x * 3 + y)))) g r := by
  refine rt_of ?_
  show Ou 38 0 [vR 6 v, vI x, vI y] [] g r _
  refine o_aload_n (n := 1) rfl rfl rfl ?_
  refine of_6_1 (n := 4) hR rfl rfl (by omega) (by omega) (fun hA1 hB1 => ?_)
  refine o_iload_n (n := 5) rfl rfl rfl ?_
  refine o_iconst (n := 6) rfl rfl ?_
  refine o_imul (n := 7) rfl rfl (by omega) ?_
  refine o_iload_n (n := 8) rfl rfl rfl ?_
  refine o_iadd (n := 9) rfl rfl (by omega) ?_
  refine o_iald (n := 10) (L := 9) rfl rfl (ok_13 (by omega) (by omega)) rfl rfl (by omega) (by omega) ?_
  refine o_iret rfl rfl ?_
  first | (exfalso; omega; done) | exact ⟨rfl, rfl, rfl⟩
end LEAF
