/-! values: the component's. Written by wip/gen/gen21.py -/
def R6 (r : GI) : Prop := ∀ i, 0 ≤ i → i < 2 → (r 6 i 1 = 2 * i ∧ r 6 i 2 = 2 * i + 1) ∨ (r 6 i 1 = 2 * i + 1 ∧ r 6 i 2 = 2 * i)
theorem St_F {r r' : GI} (h : am_St r) (f : ∀ k, k ≠ 6 → r' k = r k) : am_St r' := by
  unfold am_St
  rw [f 0 (by decide), f 1 (by decide), f 2 (by decide), f 3 (by decide), f 4 (by decide), f 5 (by decide), f 7 (by decide), f 16 (by decide), f 8 (by decide)]
  exact h
theorem Rg_F {r r' : GI} (h : am_Rg r) (f : ∀ k, k ≠ 6 → r' k = r k) (h6 : R6 r') : am_Rg r' := by
  refine ⟨fun j a b => ?_, fun j a b => ?_, fun i a b => ?_⟩
  · rw [f 14 (by decide)]; exact h.1 j a b
  · rw [f 15 (by decide)]; exact h.2.1 j a b
  · have := h6 i a b; omega
/-- all that work on value v may change -/
def F7 (v : Int) (g r g' r' : GI) : Prop := (∀ k, k ≠ 6 → k ≠ 13 → g' k = g k) ∧ (∀ k, k ≠ 6 → r' k = r k) ∧ (∀ i s, i ≠ v → g' 6 i s = g 6 i s) ∧ (∀ i s, i ≠ v → r' 6 i s = r 6 i s) ∧ (∀ i s, i ≠ 2 * v → i ≠ 2 * v + 1 → g' 13 i s = g 13 i s) ∧ R6 r'
theorem F7.k {v : Int} {g r g' r' : GI} (h : F7 v g r g' r') : ∀ k, k ≠ 6 → k ≠ 13 → g' k = g k := h.1
theorem F7.rk {v : Int} {g r g' r' : GI} (h : F7 v g r g' r') : ∀ k, k ≠ 6 → r' k = r k := h.2.1
theorem F7.o {v : Int} {g r g' r' : GI} (h : F7 v g r g' r') : ∀ i s, i ≠ v → g' 6 i s = g 6 i s := h.2.2.1
theorem F7.ro {v : Int} {g r g' r' : GI} (h : F7 v g r g' r') : ∀ i s, i ≠ v → r' 6 i s = r 6 i s := h.2.2.2.1
theorem F7.c {v : Int} {g r g' r' : GI} (h : F7 v g r g' r') : ∀ i s, i ≠ 2 * v → i ≠ 2 * v + 1 → g' 13 i s = g 13 i s := h.2.2.2.2.1
theorem F7.r6 {v : Int} {g r g' r' : GI} (h : F7 v g r g' r') : R6 r' := h.2.2.2.2.2
theorem F7_tr {v : Int} {g r g1 r1 g2 r2 : GI} (a : F7 v g r g1 r1) (b : F7 v g1 r1 g2 r2) : F7 v g r g2 r2 :=
  ⟨fun k h1 h2 => (b.k k h1 h2).trans (a.k k h1 h2), fun k h1 => (b.rk k h1).trans (a.rk k h1), fun i s h => (b.o i s h).trans (a.o i s h), fun i s h => (b.ro i s h).trans (a.ro i s h), fun i s h h' => (b.c i s h h').trans (a.c i s h h'), b.r6⟩
/-- only array c of cells changed -/
def G13 (g g' : GI) (c : Int) : Prop := (∀ k, k ≠ 13 → g' k = g k) ∧ ∀ i s, i ≠ c → g' 13 i s = g 13 i s
theorem G13_refl (g : GI) (c : Int) : G13 g g c := ⟨fun _ _ => rfl, fun _ _ _ => rfl⟩
theorem G13_set {g g1 : GI} {c s v : Int} (h : G13 g g1 c) : G13 g (gset g1 13 c s v) c := ⟨fun k hk => (gset_kf hk).trans (h.1 k hk), fun i s' hi => (gset_i hi).trans (h.2 i s' hi)⟩
theorem Vr7_k {g g' : GI} {e ρ n : Int} {E : Int → Int → Int → Int} (h0 : g' 0 = g 0) (h9 : g' 9 = g 9) (h : Vr7 g e ρ n E) : Vr7 g' e ρ n E := by
  unfold Vr7; rw [h0, h9]; exact h
def Vw7 (g : GI) (q len : Int) (w : Int → Int) : Prop := g 1 q 1 = len ∧ ∀ k, 0 ≤ k → k < len → g 10 q k = w k
theorem c0_nat' {g r : GI} {ρ n x s y : Int} {M Es : Int → Int → Int} (hz : ρ = 0) (hS : am_St r) {e c : Int} (he : 0 ≤ e) (he1 : e < 10) (hc : 0 ≤ c) (hc1 : c < 4) (hx : 0 ≤ x) (hx1 : x < 3) (hs : 0 ≤ s) (hs1 : s < 4) (hy : 0 ≤ y) (hy1 : y < 3) (hn : g 0 e 1 = n) (hn0 : 1 ≤ n) (hn1 : n ≤ 3) (hE : ∀ z, 0 ≤ z → z < n → g 9 e (s * 9 + y + z * 3) = Es z y ∧ -1 ≤ Es z y ∧ Es z y ≤ 999) (hM : ∀ z, 0 ≤ z → z < n → g 13 c (x * 3 + z) = M x z ∧ 0 ≤ M x z ∧ M x z ≤ 2147483647) : Rt 10 [vR 0 e, vR 13 c, vI x, vI s, vI y] g r (some (vL (cl ρ n M Es x y))) g r := by
  subst hz; exact c0_nat hS he he1 hc hc1 hx hx1 hs hs1 hy hy1 hn hn0 hn1 hE hM
theorem cl_lo {ρ n x y : Int} {M Es : Int → Int → Int} (hn0 : 1 ≤ n) (hE : ∀ z, 0 ≤ z → z < n → -1 ≤ Es z y ∧ Es z y ≤ 999) (hM : ∀ z, 0 ≤ z → z < n → (ρ = 0 → 0 ≤ M x z ∧ M x z ≤ 2147483647) ∧ (ρ ≠ 0 → -1 ≤ M x z ∧ M x z ≤ 99999)) : -1 ≤ cl ρ n M Es x y ∧ (ρ ≠ 0 → cl ρ n M Es x y ≤ 100998) := by
  unfold cl
  by_cases hz : ρ = 0
  · rw [cif_t hz]
    subst hz
    have := clp_b0 (M := M) (E := Es) (x := x) (y := y) (n := n.toNat) (z := 0) (acc := 0) (by omega) (by omega) (by omega) (fun j a b => ⟨((hM j a (by omega)).1 rfl).1, ((hM j a (by omega)).1 rfl).2, hE j a (by omega)⟩)
    exact ⟨by omega, fun z => absurd rfl z⟩
  · rw [cif_f hz]
    have := clp_b1 hz (M := M) (E := Es) (x := x) (y := y) (C := 99999) (by omega) (n := n.toNat) (z := 0) (acc := -1) (by omega) (by omega) (fun j a b => ⟨((hM j a (by omega)).2 hz).1, ((hM j a (by omega)).2 hz).2, hE j a (by omega)⟩)
    exact ⟨by omega, fun _ => by omega⟩
section VAL
variable {g r : GI} {ρ n v e : Int} {E : Int → Int → Int → Int} {w : Int → Int} {Q : Option AV → GI → GI → Prop}
theorem l6_sty (hS : am_St r) (hR : am_Rg r) (h6 : R6 r) (hv : 0 ≤ v) (hv1 : v < 2) (he : 0 ≤ e) (he1 : e < 10) (hb : Br ρ n E) (hV : Vr7 g e ρ n E) {al un : Int} (hal : al = cif (ρ = 0) 1 0) (hun : un = cif (ρ = 0) 0 (-1)) {x : Int} (hx : 0 ≤ x) (hx1 : x < n) : ∀ (m : Nat) (y : Int) (g1 : GI), (0 ≤ y) → (y + m = n) → (G13 g g1 (r 6 v 1)) → ((∀ a b, 0 ≤ a → a < n → 0 ≤ b → b < n → (a < x ∨ (a = x ∧ b < y)) → g1 13 (r 6 v 1) (a * 3 + b) = mt ρ n E w 0 a b)) → (∀ g1, G13 g g1 (r 6 v 1) → (∀ a b, 0 ≤ a → a < n → 0 ≤ b → b < n → a < x + 1 → g1 13 (r 6 v 1) (a * 3 + b) = mt ρ n E w 0 a b) → Ou 40 80 [vR 6 v, vR 0 e, vI al, vI un, vI x, vI n] [] g1 r Q) → Ou 40 41 [vR 6 v, vR 0 e, vI al, vI un, vI x, vI y] [] g1 r Q := by
  intro m
  induction m with
  | zero =>
    intro y g1 i0 i1 f i2 hQ
    obtain ⟨hρ, ⟨hn0, hn1⟩, hE⟩ := hb
    have e0 := (Vr7_k (f.1 0 (by decide)) (f.1 9 (by decide)) hV).1
    have e1 := (Vr7_k (f.1 0 (by decide)) (f.1 9 (by decide)) hV).2.1
    have hk : y = n := by omega
    subst hk
    refine o_iload (n := 43) rfl rfl rfl ?_
    refine o_aload_n (n := 44) rfl rfl rfl ?_
    refine o_geti (n := 47) rfl rfl rfl (ok_0 (by omega) (by omega)) rfl ?_
    refine o_icmp_ge (n := 50) (t := 80) rfl rfl rfl (fun h47 => ?_) (fun h47 => (by exfalso; omega))
    exact hQ g1 f (fun a b a0 a1 b0 b1 c => i2 a b a0 a1 b0 b1 (by omega))
  | succ m ih =>
    intro y g1 i0 i1 f i2 hQ
    obtain ⟨hρ, ⟨hn0, hn1⟩, hE⟩ := hb
    have e0 := (Vr7_k (f.1 0 (by decide)) (f.1 9 (by decide)) hV).1
    have e1 := (Vr7_k (f.1 0 (by decide)) (f.1 9 (by decide)) hV).2.1
    refine o_iload (n := 43) rfl rfl rfl ?_
    refine o_aload_n (n := 44) rfl rfl rfl ?_
    refine o_geti (n := 47) rfl rfl rfl (ok_0 (by omega) (by omega)) rfl ?_
    refine o_icmp_ge (n := 50) (t := 80) rfl rfl rfl (fun h47 => (by exfalso; omega)) (fun h47 => ?_)
    refine o_aload_n (n := 51) rfl rfl rfl ?_
    refine of_6_1 (n := 54) hR rfl rfl (by omega) (by omega) (fun hA51 hB51 => ?_)
    refine o_iload (n := 56) rfl rfl rfl ?_
    refine o_iconst (n := 57) rfl rfl ?_
    refine o_imul (n := 58) rfl rfl (by omega) ?_
    refine o_iload (n := 60) rfl rfl rfl ?_
    refine o_iadd (n := 61) rfl rfl (by omega) ?_
    refine o_iload (n := 63) rfl rfl rfl ?_
    refine o_iload (n := 65) rfl rfl rfl ?_
    refine o_icmp_ne (n := 68) (t := 72) rfl rfl rfl (fun h65 => ?_) (fun h65 => ?_)
    · refine o_iload_n (n := 73) rfl rfl rfl ?_
      refine o_iast (n := 74) (L := 9) rfl rfl (ok_13 (by omega) (by omega)) rfl rfl (by omega) (by omega) ?_
      refine o_iinc_5 (n := 77) rfl rfl rfl (by omega) ?_
      refine o_goto (t := 41) rfl rfl ?_
      refine ih (y + 1) _ (by omega) (by omega) (G13_set f) (fun a b a0 a1 b0 b1 c => ?_) hQ
      by_cases z : a * 3 + b = x * 3 + y
      · rw [z, gset_at]
        unfold mt
        first | (rw [cif_t (by omega)]; exact hal) | (rw [cif_f (by omega)]; exact hun)
      · rw [gset_s z]; exact i2 a b a0 a1 b0 b1 (by omega)
    · refine o_iload_n (n := 69) rfl rfl rfl ?_
      refine o_goto (t := 73) rfl rfl ?_
      refine o_iast (n := 74) (L := 9) rfl rfl (ok_13 (by omega) (by omega)) rfl rfl (by omega) (by omega) ?_
      refine o_iinc_5 (n := 77) rfl rfl rfl (by omega) ?_
      refine o_goto (t := 41) rfl rfl ?_
      refine ih (y + 1) _ (by omega) (by omega) (G13_set f) (fun a b a0 a1 b0 b1 c => ?_) hQ
      by_cases z : a * 3 + b = x * 3 + y
      · rw [z, gset_at]
        unfold mt
        first | (rw [cif_t (by omega)]; exact hal) | (rw [cif_f (by omega)]; exact hun)
      · rw [gset_s z]; exact i2 a b a0 a1 b0 b1 (by omega)
theorem l6_stx (hS : am_St r) (hR : am_Rg r) (h6 : R6 r) (hv : 0 ≤ v) (hv1 : v < 2) (he : 0 ≤ e) (he1 : e < 10) (hb : Br ρ n E) (hV : Vr7 g e ρ n E) {al un : Int} (hal : al = cif (ρ = 0) 1 0) (hun : un = cif (ρ = 0) 0 (-1)) : ∀ (m : Nat) (x : Int) (t : AV) (g1 : GI), (0 ≤ x) → (x + m = n) → (G13 g g1 (r 6 v 1)) → ((∀ a b, 0 ≤ a → a < n → 0 ≤ b → b < n → a < x → g1 13 (r 6 v 1) (a * 3 + b) = mt ρ n E w 0 a b)) → Ou 40 29 [vR 6 v, vR 0 e, vI al, vI un, vI x, t] [] g1 r (fun v' g1 r1 => v' = none ∧ r1 = r ∧ G13 g g1 (r 6 v 1) ∧ ∀ x y, 0 ≤ x → x < n → 0 ≤ y → y < n → g1 13 (r 6 v 1) (x * 3 + y) = mt ρ n E w 0 x y) := by
  intro m
  induction m with
  | zero =>
    intro x t g1 i0 i1 f i2
    obtain ⟨hρ, ⟨hn0, hn1⟩, hE⟩ := hb
    have e0 := (Vr7_k (f.1 0 (by decide)) (f.1 9 (by decide)) hV).1
    have e1 := (Vr7_k (f.1 0 (by decide)) (f.1 9 (by decide)) hV).2.1
    refine o_iload (n := 31) rfl rfl rfl ?_
    refine o_aload_n (n := 32) rfl rfl rfl ?_
    refine o_geti (n := 35) rfl rfl rfl (ok_0 (by omega) (by omega)) rfl ?_
    refine o_icmp_ge (n := 38) (t := 86) rfl rfl rfl (fun h35 => ?_) (fun h35 => (by exfalso; omega))
    refine o_vret rfl ?_
    first | (exfalso; omega; done) | exact ⟨rfl, rfl, f, fun a b a0 a1 b0 b1 => i2 a b a0 a1 b0 b1 (by omega)⟩
  | succ m ih =>
    intro x t g1 i0 i1 f i2
    have hb' := hb
    obtain ⟨hρ, ⟨hn0, hn1⟩, hE⟩ := hb
    have e0 := (Vr7_k (f.1 0 (by decide)) (f.1 9 (by decide)) hV).1
    have e1 := (Vr7_k (f.1 0 (by decide)) (f.1 9 (by decide)) hV).2.1
    refine o_iload (n := 31) rfl rfl rfl ?_
    refine o_aload_n (n := 32) rfl rfl rfl ?_
    refine o_geti (n := 35) rfl rfl rfl (ok_0 (by omega) (by omega)) rfl ?_
    refine o_icmp_ge (n := 38) (t := 86) rfl rfl rfl (fun h35 => (by exfalso; omega)) (fun h35 => ?_)
    refine o_iconst (n := 39) rfl rfl ?_
    refine o_istore_5 (n := 41) rfl rfl rfl ?_
    refine l6_sty hS hR h6 hv hv1 he he1 hb' hV hal hun i0 (by omega) n.toNat 0 g1 (by omega) (by omega) f (fun a b a0 a1 b0 b1 c => i2 a b a0 a1 b0 b1 (by omega)) (fun g1 f i3 => ?_)
    refine o_iinc_4 (n := 83) rfl rfl rfl (by omega) ?_
    refine o_goto (t := 29) rfl rfl ?_
    exact ih (x + 1) _ g1 (by omega) (by omega) f i3
theorem c6_start (hS : am_St r) (hR : am_Rg r) (h6 : R6 r) (hv : 0 ≤ v) (hv1 : v < 2) (he : 0 ≤ e) (he1 : e < 10) (hb : Br ρ n E) (hV : Vr7 g e ρ n E) : Ou 40 0 (am_ini 40 [vR 6 v, vR 0 e]) [] g r (fun v' g1 r1 => v' = none ∧ r1 = r ∧ G13 g g1 (r 6 v 1) ∧ ∀ x y, 0 ≤ x → x < n → 0 ≤ y → y < n → g1 13 (r 6 v 1) (x * 3 + y) = mt ρ n E w 0 x y) := by
  show Ou 40 0 [vR 6 v, vR 0 e, vN, vN, vN, vN] [] g r _
  have hb' := hb
  obtain ⟨hρ, ⟨hn0, hn1⟩, hE⟩ := hb
  have e0 := hV.1
  have e1 := hV.2.1
  refine o_aload_n (n := 1) rfl rfl rfl ?_
  refine o_geti (n := 4) rfl rfl rfl (ok_0 (by omega) (by omega)) rfl ?_
  refine o_if_ne (n := 7) (t := 11) rfl rfl rfl (fun h4 => ?_) (fun h4 => ?_)
  · refine o_iconst (n := 12) rfl rfl ?_
    refine o_istore_2 (n := 13) rfl rfl rfl ?_
    refine o_aload_n (n := 14) rfl rfl rfl ?_
    refine o_geti (n := 17) rfl rfl rfl (ok_0 (by omega) (by omega)) rfl ?_
    refine o_if_ne (n := 20) (t := 24) rfl rfl rfl (fun h17 => ?_) (fun h17 => ?_)
    · refine o_iconst (n := 25) rfl rfl ?_
      refine o_istore_3 (n := 26) rfl rfl rfl ?_
      refine o_iconst (n := 27) rfl rfl ?_
      refine o_istore_4 (n := 29) rfl rfl rfl ?_
      first | (exfalso; omega; done) | exact l6_stx hS hR h6 hv hv1 he he1 hb' hV (by first | rw [cif_t (by omega)] | rw [cif_f (by omega)]) (by first | rw [cif_t (by omega)] | rw [cif_f (by omega)]) n.toNat 0 _ g (by omega) (by omega) (G13_refl g _) (fun a b a0 a1 b0 b1 c => by omega)
    · refine o_iconst (n := 21) rfl rfl ?_
      refine o_goto (t := 25) rfl rfl ?_
      refine o_istore_3 (n := 26) rfl rfl rfl ?_
      refine o_iconst (n := 27) rfl rfl ?_
      refine o_istore_4 (n := 29) rfl rfl rfl ?_
      first | (exfalso; omega; done) | exact l6_stx hS hR h6 hv hv1 he he1 hb' hV (by first | rw [cif_t (by omega)] | rw [cif_f (by omega)]) (by first | rw [cif_t (by omega)] | rw [cif_f (by omega)]) n.toNat 0 _ g (by omega) (by omega) (G13_refl g _) (fun a b a0 a1 b0 b1 c => by omega)
  · refine o_iconst (n := 8) rfl rfl ?_
    refine o_goto (t := 12) rfl rfl ?_
    refine o_istore_2 (n := 13) rfl rfl rfl ?_
    refine o_aload_n (n := 14) rfl rfl rfl ?_
    refine o_geti (n := 17) rfl rfl rfl (ok_0 (by omega) (by omega)) rfl ?_
    refine o_if_ne (n := 20) (t := 24) rfl rfl rfl (fun h17 => ?_) (fun h17 => ?_)
    · refine o_iconst (n := 25) rfl rfl ?_
      refine o_istore_3 (n := 26) rfl rfl rfl ?_
      refine o_iconst (n := 27) rfl rfl ?_
      refine o_istore_4 (n := 29) rfl rfl rfl ?_
      first | (exfalso; omega; done) | exact l6_stx hS hR h6 hv hv1 he he1 hb' hV (by first | rw [cif_t (by omega)] | rw [cif_f (by omega)]) (by first | rw [cif_t (by omega)] | rw [cif_f (by omega)]) n.toNat 0 _ g (by omega) (by omega) (G13_refl g _) (fun a b a0 a1 b0 b1 c => by omega)
    · refine o_iconst (n := 21) rfl rfl ?_
      refine o_goto (t := 25) rfl rfl ?_
      refine o_istore_3 (n := 26) rfl rfl rfl ?_
      refine o_iconst (n := 27) rfl rfl ?_
      refine o_istore_4 (n := 29) rfl rfl rfl ?_
      first | (exfalso; omega; done) | exact l6_stx hS hR h6 hv hv1 he he1 hb' hV (by first | rw [cif_t (by omega)] | rw [cif_f (by omega)]) (by first | rw [cif_t (by omega)] | rw [cif_f (by omega)]) n.toNat 0 _ g (by omega) (by omega) (G13_refl g _) (fun a b a0 a1 b0 b1 c => by omega)
theorem l6_muy (hS : am_St r) (hR : am_Rg r) (h6 : R6 r) (hv : 0 ≤ v) (hv1 : v < 2) (he : 0 ≤ e) (he1 : e < 10) (hb : Br ρ n E) (hV : Vr7 g e ρ n E) {M : Int → Int → Int} {s : Int} (hs : 0 ≤ s) (hs1 : s < 4) (hMb : ∀ x z, 0 ≤ x → x < n → 0 ≤ z → z < n → (ρ = 0 → 0 ≤ M x z ∧ M x z ≤ 2147483647) ∧ (ρ ≠ 0 → -1 ≤ M x z ∧ M x z ≤ 99999)) (hM : ∀ x z, 0 ≤ x → x < n → 0 ≤ z → z < n → g 13 (r 6 v 1) (x * 3 + z) = M x z) {x : Int} (hx : 0 ≤ x) (hx1 : x < n) : ∀ (m : Nat) (y : Int) (t5 t6 : AV) (g1 : GI), (0 ≤ y) → (y + m = n) → (G13 g g1 (r 6 v 2)) → ((∀ a b, 0 ≤ a → a < n → 0 ≤ b → b < n → (a < x ∨ (a = x ∧ b < y)) → g1 13 (r 6 v 2) (a * 3 + b) = cl ρ n M (E s) a b ∧ ¬ (ρ = 0 ∧ 2147483647 < cl ρ n M (E s) a b))) → (∀ t5 t6 g1, G13 g g1 (r 6 v 2) → (∀ a b, 0 ≤ a → a < n → 0 ≤ b → b < n → a < x + 1 → g1 13 (r 6 v 2) (a * 3 + b) = cl ρ n M (E s) a b ∧ ¬ (ρ = 0 ∧ 2147483647 < cl ρ n M (E s) a b)) → Ou 41 94 [vR 6 v, vI s, vR 0 e, vI x, vI n, t5, t6] [] g1 r (fun v' g1 r1 => v' = none ∧ F7 v g r g1 r1 ∧ ((ov ρ n (cl ρ n M (E s)) ∧ g1 6 v 0 = 1) ∨ (¬ ov ρ n (cl ρ n M (E s)) ∧ g1 6 v 0 = g 6 v 0 ∧ ∀ x y, 0 ≤ x → x < n → 0 ≤ y → y < n → g1 13 (r1 6 v 1) (x * 3 + y) = cl ρ n M (E s) x y)))) → Ou 41 13 [vR 6 v, vI s, vR 0 e, vI x, vI y, t5, t6] [] g1 r (fun v' g1 r1 => v' = none ∧ F7 v g r g1 r1 ∧ ((ov ρ n (cl ρ n M (E s)) ∧ g1 6 v 0 = 1) ∨ (¬ ov ρ n (cl ρ n M (E s)) ∧ g1 6 v 0 = g 6 v 0 ∧ ∀ x y, 0 ≤ x → x < n → 0 ≤ y → y < n → g1 13 (r1 6 v 1) (x * 3 + y) = cl ρ n M (E s) x y))) := by
  intro m
  induction m with
  | zero =>
    intro y t5 t6 g1 i0 i1 f i2 hQ
    obtain ⟨hρ, ⟨hn0, hn1⟩, hE⟩ := hb
    have e0 := (Vr7_k (f.1 0 (by decide)) (f.1 9 (by decide)) hV).1
    have e1 := (Vr7_k (f.1 0 (by decide)) (f.1 9 (by decide)) hV).2.1
    have hk : y = n := by omega
    subst hk
    refine o_iload (n := 15) rfl rfl rfl ?_
    refine o_aload_n (n := 16) rfl rfl rfl ?_
    refine o_geti (n := 19) rfl rfl rfl (ok_0 (by omega) (by omega)) rfl ?_
    refine o_icmp_ge (n := 22) (t := 94) rfl rfl rfl (fun h19 => ?_) (fun h19 => (by exfalso; omega))
    exact hQ _ _ g1 f (fun a b a0 a1 b0 b1 c => i2 a b a0 a1 b0 b1 (by omega))
  | succ m ih =>
    intro y t5 t6 g1 i0 i1 f i2 hQ
    obtain ⟨hρ, ⟨hn0, hn1⟩, hE⟩ := hb
    have e0 := (Vr7_k (f.1 0 (by decide)) (f.1 9 (by decide)) hV).1
    have e1 := (Vr7_k (f.1 0 (by decide)) (f.1 9 (by decide)) hV).2.1
    have hc6 := h6 v hv hv1
    have hMg : ∀ a z, 0 ≤ a → a < n → 0 ≤ z → z < n → g1 13 (r 6 v 1) (a * 3 + z) = M a z := fun a z a0 a1 b0 b1 => by rw [f.2 (r 6 v 1) _ (by omega)]; exact hM a z a0 a1 b0 b1
    have eE := (Vr7_k (f.1 0 (by decide)) (f.1 9 (by decide)) hV).2.2
    have hlo := cl_lo (ρ := ρ) (n := n) (x := x) (y := y) (M := M) (Es := E s) hn0 (fun z a b => hE s z y hs hs1 a (by omega) i0 (by omega)) (fun z a b => hMb x z hx hx1 a b)
    refine o_iload (n := 15) rfl rfl rfl ?_
    refine o_aload_n (n := 16) rfl rfl rfl ?_
    refine o_geti (n := 19) rfl rfl rfl (ok_0 (by omega) (by omega)) rfl ?_
    refine o_icmp_ge (n := 22) (t := 94) rfl rfl rfl (fun h19 => (by exfalso; omega)) (fun h19 => ?_)
    refine o_aload_n (n := 23) rfl rfl rfl ?_
    refine o_geti (n := 26) rfl rfl rfl (ok_0 (by omega) (by omega)) rfl ?_
    refine o_if_ne (n := 29) (t := 44) rfl rfl rfl (fun h26 => ?_) (fun h26 => ?_)
    · refine o_aload_n (n := 45) rfl rfl rfl ?_
      refine o_aload_n (n := 46) rfl rfl rfl ?_
      refine of_6_1 (n := 49) hR rfl rfl (by omega) (by omega) (fun hA46 hB46 => ?_)
      refine o_iload_n (n := 50) rfl rfl rfl ?_
      refine o_iload_n (n := 51) rfl rfl rfl ?_
      refine o_iload (n := 53) rfl rfl rfl ?_
      have hc := c0_best (g := g1) (M := M) (Es := E s) (ρ := ρ) hS he he1 (c := r 6 v 1) (by omega) (by omega) hx (by omega) hs hs1 i0 (by omega) e1 hn0 hn1 (fun z a b => ⟨eE s z y hs hs1 a (by omega) i0 (by omega), hE s z y hs hs1 a (by omega) i0 (by omega)⟩) 99999 (by omega) (fun z a b => ⟨hMg x z hx hx1 a b, (hMb x z hx hx1 a b).2 (by omega)⟩) e0 (by omega)
      refine o_invi (n := 56) rfl rfl rfl rfl rfl rfl rfl rfl rfl (ok_0 (by omega) (by omega)) (hc) ?_
      refine o_i2l (n := 57) rfl rfl ?_
      refine o_lstore_5 (n := 59) rfl rfl rfl ?_
      refine o_lload (n := 61) rfl rfl rfl ?_
      refine o_ldc2_w (n := 64) rfl rfl ?_
      refine o_lcmp_le (n := 68) (t := 74) rfl rfl rfl rfl (fun h64 => ?_) (fun h64 => ?_)
      · refine o_aload_n (n := 75) rfl rfl rfl ?_
        refine of_6_2 (n := 78) hR rfl rfl (by omega) (by omega) (fun hA75 hB75 => ?_)
        refine o_iload_n (n := 79) rfl rfl rfl ?_
        refine o_iconst (n := 80) rfl rfl ?_
        refine o_imul (n := 81) rfl rfl (by omega) ?_
        refine o_iload (n := 83) rfl rfl rfl ?_
        refine o_iadd (n := 84) rfl rfl (by omega) ?_
        refine o_lload (n := 86) rfl rfl rfl ?_
        refine o_l2iN (n := 87) rfl rfl (by omega) ?_
        refine o_iast (n := 88) (L := 9) rfl rfl (ok_13 (by omega) (by omega)) rfl rfl (by omega) (by omega) ?_
        refine o_iinc_4 (n := 91) rfl rfl rfl (by omega) ?_
        refine o_goto (t := 13) rfl rfl ?_
        refine ih (y + 1) _ _ _ (by omega) (by omega) (G13_set f) (fun a b a0 a1 b0 b1 c => ?_) hQ
        by_cases z : a * 3 + b = x * 3 + y
        · have za : a = x := by omega
          have zb : b = y := by omega
          subst za; subst zb
          rw [gset_at]
          exact ⟨rfl, fun z => by omega⟩
        · rw [gset_s z]; exact i2 a b a0 a1 b0 b1 (by omega)
      · refine o_aload_n (n := 69) rfl rfl rfl ?_
        refine o_iconst (n := 70) rfl rfl ?_
        refine o_putz (n := 73) rfl rfl rfl (ok_6 (by omega) (by omega)) rfl (by omega) ?_
        refine o_vret rfl ?_
        first | (exfalso; omega; done) | exact ⟨rfl, ⟨fun k a b => (gset_kf a).trans (f.1 k b), fun _ _ => rfl, fun i s a => (gset_i a).trans (by rw [f.1 6 (by decide)]), fun _ _ _ => rfl, fun i s a b => (gset_k rfl).trans (f.2 i s (by omega)), h6⟩, Or.inl ⟨⟨by omega, x, y, hx, hx1, i0, by omega, by omega⟩, gset_at⟩⟩
    · refine o_aload_n (n := 30) rfl rfl rfl ?_
      refine o_aload_n (n := 31) rfl rfl rfl ?_
      refine of_6_1 (n := 34) hR rfl rfl (by omega) (by omega) (fun hA31 hB31 => ?_)
      refine o_iload_n (n := 35) rfl rfl rfl ?_
      refine o_iload_n (n := 36) rfl rfl rfl ?_
      refine o_iload (n := 38) rfl rfl rfl ?_
      have hc := c0_nat' (g := g1) (M := M) (Es := E s) (ρ := ρ) (by omega) hS he he1 (c := r 6 v 1) (by omega) (by omega) hx (by omega) hs hs1 i0 (by omega) e1 hn0 hn1 (fun z a b => ⟨eE s z y hs hs1 a (by omega) i0 (by omega), hE s z y hs hs1 a (by omega) i0 (by omega)⟩) (fun z a b => ⟨hMg x z hx hx1 a b, (hMb x z hx hx1 a b).1 (by omega)⟩)
      refine o_invi (n := 41) rfl rfl rfl rfl rfl rfl rfl rfl rfl (ok_0 (by omega) (by omega)) (hc) ?_
      refine o_goto (t := 57) rfl rfl ?_
      refine o_lstore_5 (n := 59) rfl rfl rfl ?_
      refine o_lload (n := 61) rfl rfl rfl ?_
      refine o_ldc2_w (n := 64) rfl rfl ?_
      refine o_lcmp_le (n := 68) (t := 74) rfl rfl rfl rfl (fun h64 => ?_) (fun h64 => ?_)
      · refine o_aload_n (n := 75) rfl rfl rfl ?_
        refine of_6_2 (n := 78) hR rfl rfl (by omega) (by omega) (fun hA75 hB75 => ?_)
        refine o_iload_n (n := 79) rfl rfl rfl ?_
        refine o_iconst (n := 80) rfl rfl ?_
        refine o_imul (n := 81) rfl rfl (by omega) ?_
        refine o_iload (n := 83) rfl rfl rfl ?_
        refine o_iadd (n := 84) rfl rfl (by omega) ?_
        refine o_lload (n := 86) rfl rfl rfl ?_
        refine o_l2iN (n := 87) rfl rfl (by omega) ?_
        refine o_iast (n := 88) (L := 9) rfl rfl (ok_13 (by omega) (by omega)) rfl rfl (by omega) (by omega) ?_
        refine o_iinc_4 (n := 91) rfl rfl rfl (by omega) ?_
        refine o_goto (t := 13) rfl rfl ?_
        refine ih (y + 1) _ _ _ (by omega) (by omega) (G13_set f) (fun a b a0 a1 b0 b1 c => ?_) hQ
        by_cases z : a * 3 + b = x * 3 + y
        · have za : a = x := by omega
          have zb : b = y := by omega
          subst za; subst zb
          rw [gset_at]
          exact ⟨rfl, fun z => by omega⟩
        · rw [gset_s z]; exact i2 a b a0 a1 b0 b1 (by omega)
      · refine o_aload_n (n := 69) rfl rfl rfl ?_
        refine o_iconst (n := 70) rfl rfl ?_
        refine o_putz (n := 73) rfl rfl rfl (ok_6 (by omega) (by omega)) rfl (by omega) ?_
        refine o_vret rfl ?_
        first | (exfalso; omega; done) | exact ⟨rfl, ⟨fun k a b => (gset_kf a).trans (f.1 k b), fun _ _ => rfl, fun i s a => (gset_i a).trans (by rw [f.1 6 (by decide)]), fun _ _ _ => rfl, fun i s a b => (gset_k rfl).trans (f.2 i s (by omega)), h6⟩, Or.inl ⟨⟨by omega, x, y, hx, hx1, i0, by omega, by omega⟩, gset_at⟩⟩
theorem l6_mux (hS : am_St r) (hR : am_Rg r) (h6 : R6 r) (hv : 0 ≤ v) (hv1 : v < 2) (he : 0 ≤ e) (he1 : e < 10) (hb : Br ρ n E) (hV : Vr7 g e ρ n E) {M : Int → Int → Int} {s : Int} (hs : 0 ≤ s) (hs1 : s < 4) (hMb : ∀ x z, 0 ≤ x → x < n → 0 ≤ z → z < n → (ρ = 0 → 0 ≤ M x z ∧ M x z ≤ 2147483647) ∧ (ρ ≠ 0 → -1 ≤ M x z ∧ M x z ≤ 99999)) (hM : ∀ x z, 0 ≤ x → x < n → 0 ≤ z → z < n → g 13 (r 6 v 1) (x * 3 + z) = M x z) : ∀ (m : Nat) (x : Int) (t4 t5 t6 : AV) (g1 : GI), (0 ≤ x) → (x + m = n) → (G13 g g1 (r 6 v 2)) → ((∀ a b, 0 ≤ a → a < n → 0 ≤ b → b < n → a < x → g1 13 (r 6 v 2) (a * 3 + b) = cl ρ n M (E s) a b ∧ ¬ (ρ = 0 ∧ 2147483647 < cl ρ n M (E s) a b))) → Ou 41 2 [vR 6 v, vI s, vR 0 e, vI x, t4, t5, t6] [] g1 r (fun v' g1 r1 => v' = none ∧ F7 v g r g1 r1 ∧ ((ov ρ n (cl ρ n M (E s)) ∧ g1 6 v 0 = 1) ∨ (¬ ov ρ n (cl ρ n M (E s)) ∧ g1 6 v 0 = g 6 v 0 ∧ ∀ x y, 0 ≤ x → x < n → 0 ≤ y → y < n → g1 13 (r1 6 v 1) (x * 3 + y) = cl ρ n M (E s) x y))) := by
  intro m
  induction m with
  | zero =>
    intro x t4 t5 t6 g1 i0 i1 f i2
    obtain ⟨hρ, ⟨hn0, hn1⟩, hE⟩ := hb
    have e0 := (Vr7_k (f.1 0 (by decide)) (f.1 9 (by decide)) hV).1
    have e1 := (Vr7_k (f.1 0 (by decide)) (f.1 9 (by decide)) hV).2.1
    refine o_iload_n (n := 3) rfl rfl rfl ?_
    refine o_aload_n (n := 4) rfl rfl rfl ?_
    refine o_geti (n := 7) rfl rfl rfl (ok_0 (by omega) (by omega)) rfl ?_
    refine o_icmp_ge (n := 10) (t := 100) rfl rfl rfl (fun h7 => ?_) (fun h7 => (by exfalso; omega))
    refine o_aload_n (n := 101) rfl rfl rfl ?_
    refine of_6_2 (n := 104) hR rfl rfl (by omega) (by omega) (fun hA101 hB101 => ?_)
    refine o_astore_3 (n := 105) rfl rfl rfl ?_
    refine o_aload_n (n := 106) rfl rfl rfl ?_
    refine o_aload_n (n := 107) rfl rfl rfl ?_
    refine of_6_1 (n := 110) hR rfl rfl (by omega) (by omega) (fun hA107 hB107 => ?_)
    refine o_putr (n := 113) rfl rfl rfl (ok_6 (by omega) (by omega)) rfl rfl (ok_13 (by omega) (by omega)) ?_
    refine o_aload_n (n := 114) rfl rfl rfl ?_
    refine o_aload_n (n := 115) rfl rfl rfl ?_
    refine o_putr (n := 118) rfl rfl rfl (ok_6 (by omega) (by omega)) rfl rfl (ok_13 (by omega) (by omega)) ?_
    refine o_vret rfl ?_
    have hc6 := h6 v hv hv1
    refine ⟨rfl, ⟨fun k a b => f.1 k b, fun k a => (gset_kf a).trans (gset_kf a), fun i s a => by rw [f.1 6 (by decide)], fun i s a => (gset_i a).trans (gset_i a), fun i s a b => f.2 i s (by omega), fun i a b => ?_⟩, Or.inr ⟨?_, by rw [f.1 6 (by decide)], fun a b a0 a1 b0 b1 => ?_⟩⟩
    · by_cases z : i = v
      · subst z
        rw [gset_at, gset_s (by decide), gset_at]
        omega
      · rw [gset_i z, gset_i z, gset_i z, gset_i z]; exact h6 i a b
    · rintro ⟨z, a, b, a0, a1, b0, b1, z2⟩
      exact (i2 a b a0 a1 b0 b1 (by omega)).2 ⟨z, z2⟩
    · rw [gset_at]; exact (i2 a b a0 a1 b0 b1 (by omega)).1
  | succ m ih =>
    intro x t4 t5 t6 g1 i0 i1 f i2
    have hb' := hb
    obtain ⟨hρ, ⟨hn0, hn1⟩, hE⟩ := hb
    have e0 := (Vr7_k (f.1 0 (by decide)) (f.1 9 (by decide)) hV).1
    have e1 := (Vr7_k (f.1 0 (by decide)) (f.1 9 (by decide)) hV).2.1
    refine o_iload_n (n := 3) rfl rfl rfl ?_
    refine o_aload_n (n := 4) rfl rfl rfl ?_
    refine o_geti (n := 7) rfl rfl rfl (ok_0 (by omega) (by omega)) rfl ?_
    refine o_icmp_ge (n := 10) (t := 100) rfl rfl rfl (fun h7 => (by exfalso; omega)) (fun h7 => ?_)
    refine o_iconst (n := 11) rfl rfl ?_
    refine o_istore_4 (n := 13) rfl rfl rfl ?_
    refine l6_muy hS hR h6 hv hv1 he he1 hb' hV hs hs1 hMb hM i0 (by omega) n.toNat 0 _ _ g1 (by omega) (by omega) f (fun a b a0 a1 b0 b1 c => i2 a b a0 a1 b0 b1 (by omega)) (fun t5 t6 g1 f i3 => ?_)
    refine o_iinc_3 (n := 97) rfl rfl rfl (by omega) ?_
    refine o_goto (t := 2) rfl rfl ?_
    exact ih (x + 1) _ _ _ g1 (by omega) (by omega) f i3
theorem c6_multiply (hS : am_St r) (hR : am_Rg r) (h6 : R6 r) (hv : 0 ≤ v) (hv1 : v < 2) (he : 0 ≤ e) (he1 : e < 10) (hb : Br ρ n E) (hV : Vr7 g e ρ n E) {M : Int → Int → Int} {s : Int} (hs : 0 ≤ s) (hs1 : s < 4) (hMb : ∀ x z, 0 ≤ x → x < n → 0 ≤ z → z < n → (ρ = 0 → 0 ≤ M x z ∧ M x z ≤ 2147483647) ∧ (ρ ≠ 0 → -1 ≤ M x z ∧ M x z ≤ 99999)) (hM : ∀ x z, 0 ≤ x → x < n → 0 ≤ z → z < n → g 13 (r 6 v 1) (x * 3 + z) = M x z) : Ou 41 0 (am_ini 41 [vR 6 v, vI s, vR 0 e]) [] g r (fun v' g1 r1 => v' = none ∧ F7 v g r g1 r1 ∧ ((ov ρ n (cl ρ n M (E s)) ∧ g1 6 v 0 = 1) ∨ (¬ ov ρ n (cl ρ n M (E s)) ∧ g1 6 v 0 = g 6 v 0 ∧ ∀ x y, 0 ≤ x → x < n → 0 ≤ y → y < n → g1 13 (r1 6 v 1) (x * 3 + y) = cl ρ n M (E s) x y))) := by
  show Ou 41 0 [vR 6 v, vI s, vR 0 e, vN, vN, vN, vN] [] g r _
  have hn0 := hb.2.1.1
  refine o_iconst (n := 1) rfl rfl ?_
  refine o_istore_3 (n := 2) rfl rfl rfl ?_
  exact l6_mux hS hR h6 hv hv1 he he1 hb hV hs hs1 hMb hM n.toNat 0 _ _ _ g (by omega) (by omega) (G13_refl g _) (fun a b a0 a1 b0 b1 c => by omega)
theorem l6_rk (hS : am_St r) (hR : am_Rg r) (h6 : R6 r) (hv : 0 ≤ v) (hv1 : v < 2) (he : 0 ≤ e) (he1 : e < 10) (hb : Br ρ n E) (hV : Vr7 g e ρ n E) {q len : Int} (hq : 0 ≤ q) (hq1 : q < 17) (hw : Bw len w) (hW : Vw7 g q len w) (hl : len ≤ am_al 10 q) : ∀ (m : Nat) (k : Nat) (g1 r1 : GI), ((k : Int) + m = len) → (F7 v g r g1 r1) → ((vo ρ n E w k ∧ g1 6 v 0 = 1) ∨ (¬ vo ρ n E w k ∧ g1 6 v 0 = 0 ∧ ∀ x y, 0 ≤ x → x < n → 0 ≤ y → y < n → g1 13 (r1 6 v 1) (x * 3 + y) = mt ρ n E w k x y)) → Ou 39 12 [vR 6 v, vR 1 q, vR 0 e, vI (k : Int)] [] g1 r1 (fun v' g1 r1 => v' = none ∧ F7 v g r g1 r1 ∧ ((vo ρ n E w len.toNat ∧ g1 6 v 0 = 1) ∨ (¬ vo ρ n E w len.toNat ∧ g1 6 v 0 = 0 ∧ ∀ x y, 0 ≤ x → x < n → 0 ≤ y → y < n → g1 13 (r1 6 v 1) (x * 3 + y) = mt ρ n E w len.toNat x y))) := by
  intro m
  induction m with
  | zero =>
    intro k g1 r1 i0 f i1
    have hS0 := hS
    have hR0 := hR
    have hS : am_St r1 := St_F hS0 f.rk
    have hR : am_Rg r1 := Rg_F hR0 f.rk f.r6
    have hV1 : Vr7 g1 e ρ n E := Vr7_k (f.k 0 (by decide) (by decide)) (f.k 9 (by decide) (by decide)) hV
    have el : g1 1 q 1 = len := by rw [f.k 1 (by decide) (by decide)]; exact hW.1
    have hl0 := hw.1
    refine o_iload_n (n := 13) rfl rfl rfl ?_
    refine o_aload_n (n := 14) rfl rfl rfl ?_
    refine o_geti (n := 17) rfl rfl rfl (ok_1 (by omega) (by omega)) rfl ?_
    refine o_icmp_ge (n := 20) (t := 44) rfl rfl rfl (fun h17 => ?_) (fun h17 => (by exfalso; omega))
    refine o_vret rfl ?_
    have hk : len.toNat = k := by omega
    rw [hk]
    exact ⟨rfl, f, i1⟩
  | succ m ih =>
    intro k g1 r1 i0 f i1
    have hS0 := hS
    have hR0 := hR
    have hS : am_St r1 := St_F hS0 f.rk
    have hR : am_Rg r1 := Rg_F hR0 f.rk f.r6
    have hV1 : Vr7 g1 e ρ n E := Vr7_k (f.k 0 (by decide) (by decide)) (f.k 9 (by decide) (by decide)) hV
    have el : g1 1 q 1 = len := by rw [f.k 1 (by decide) (by decide)]; exact hW.1
    have hl0 := hw.1
    refine o_iload_n (n := 13) rfl rfl rfl ?_
    refine o_aload_n (n := 14) rfl rfl rfl ?_
    refine o_geti (n := 17) rfl rfl rfl (ok_1 (by omega) (by omega)) rfl ?_
    refine o_icmp_ge (n := 20) (t := 44) rfl rfl rfl (fun h17 => (by exfalso; omega)) (fun h17 => ?_)
    refine o_aload_n (n := 21) rfl rfl rfl ?_
    refine o_geti (n := 24) rfl rfl rfl (ok_6 (by omega) (by omega)) rfl ?_
    refine o_if_ne (n := 27) (t := 44) rfl rfl rfl (fun h24 => ?_) (fun h24 => ?_)
    · refine o_vret rfl ?_
      rcases i1 with ⟨a, b⟩ | ⟨a, b, c⟩
      · exact ⟨rfl, f, Or.inl ⟨vo_mono (by omega) a, b⟩⟩
      · exfalso; omega
    · refine o_aload_n (n := 28) rfl rfl rfl ?_
      refine o_aload_n (n := 29) rfl rfl rfl ?_
      refine of_1_0 (n := 32) hS rfl rfl (by omega) (by omega) ?_
      refine o_iload_n (n := 33) rfl rfl rfl ?_
      refine o_iald (n := 34) rfl rfl (ok_10 (by omega) (by omega)) rfl rfl (by omega) (by omega) ?_
      refine o_aload_n (n := 35) rfl rfl rfl ?_
      have es : g1 10 q k = w k := by rw [f.k 10 (by decide) (by decide)]; exact hW.2 k (by omega) (by omega)
      have hi : ¬ vo ρ n E w k ∧ ∀ x y, 0 ≤ x → x < n → 0 ≤ y → y < n → g1 13 (r1 6 v 1) (x * 3 + y) = mt ρ n E w k x y := by
        rcases i1 with ⟨a, b⟩ | ⟨a, b, c⟩
        · exfalso; omega
        · exact ⟨a, c⟩
      have hws := hw.2 k (by omega) (by omega)
      have hmb := mt_b hb hw k (by omega) hi.1
      obtain ⟨v2, g2, r2, hc, hv2, f2, hh⟩ := rt_ex (c6_multiply (E := E) hS hR f.r6 hv hv1 he he1 hb hV1 (s := w k) hws.1 hws.2 (fun x z a b c d => ⟨(hmb x z a b c d).1, fun hz => by have := (hmb x z a b c d).2 hz; omega⟩) hi.2)
      subst hv2
      rw [← es] at hc
      refine o_invv (n := 38) rfl rfl rfl rfl rfl rfl rfl rfl rfl (ok_6 (by omega) (by omega)) (hc) ?_
      refine o_iinc_3 (n := 41) rfl rfl rfl (by omega) ?_
      refine o_goto (t := 12) rfl rfl ?_
      rw [show (k : Int) + 1 = ((k + 1 : Nat) : Int) by omega]
      refine ih (k + 1) g2 r2 (by omega) (F7_tr f f2) ?_
      rcases hh with ⟨a, b⟩ | ⟨a, b, c⟩
      · exact Or.inl ⟨vo_s.mpr (Or.inr a), b⟩
      · refine Or.inr ⟨fun z => ?_, ?_, c⟩
        · rcases vo_s.mp z with z | z
          · exact hi.1 z
          · exact a z
        · rw [b]; omega
theorem c6_reckon (hS : am_St r) (hR : am_Rg r) (h6 : R6 r) (hv : 0 ≤ v) (hv1 : v < 2) (he : 0 ≤ e) (he1 : e < 10) (hb : Br ρ n E) (hV : Vr7 g e ρ n E) {q len : Int} (hq : 0 ≤ q) (hq1 : q < 17) (hw : Bw len w) (hW : Vw7 g q len w) (hl : len ≤ am_al 10 q) : Ou 39 0 (am_ini 39 [vR 6 v, vR 1 q, vR 0 e]) [] g r (fun v' g1 r1 => v' = none ∧ F7 v g r g1 r1 ∧ ((vo ρ n E w len.toNat ∧ g1 6 v 0 = 1) ∨ (¬ vo ρ n E w len.toNat ∧ g1 6 v 0 = 0 ∧ ∀ x y, 0 ≤ x → x < n → 0 ≤ y → y < n → g1 13 (r1 6 v 1) (x * 3 + y) = mt ρ n E w len.toNat x y))) := by
  show Ou 39 0 [vR 6 v, vR 1 q, vR 0 e, vN] [] g r _
  have hl0 := hw.1
  have hc6 := h6 v hv hv1
  refine o_aload_n (n := 1) rfl rfl rfl ?_
  refine o_iconst (n := 2) rfl rfl ?_
  refine o_putz (n := 5) rfl rfl rfl (ok_6 (by omega) (by omega)) rfl (by omega) ?_
  refine o_aload_n (n := 6) rfl rfl rfl ?_
  refine o_aload_n (n := 7) rfl rfl rfl ?_
  obtain ⟨v1, g1, r1, hc, hv1', hr1, f1, hi⟩ := rt_ex (c6_start (g := gset g 6 v 0 0) (E := E) (w := w) hS hR h6 hv hv1 he he1 hb (Vr7_k (gset_kf (by decide)) (gset_kf (by decide)) hV))
  subst hv1'
  subst hr1
  refine o_invv (n := 10) rfl rfl rfl rfl rfl rfl rfl rfl rfl (ok_6 (by omega) (by omega)) (hc) ?_
  refine o_iconst (n := 11) rfl rfl ?_
  refine o_istore_3 (n := 12) rfl rfl rfl ?_
  refine l6_rk hS hR h6 hv hv1 he he1 hb hV hq hq1 hw hW hl len.toNat 0 g1 _ (by omega) ⟨fun k a b => (f1.1 k b).trans (gset_kf a), fun _ _ => rfl, fun i s a => by rw [f1.1 6 (by decide), gset_i a], fun _ _ _ => rfl, fun i s a b => (f1.2 i s (by omega)).trans (gset_k rfl), h6⟩ (Or.inr ⟨fun ⟨k, z, _⟩ => by omega, by rw [f1.1 6 (by decide), gset_at], hi⟩)
end VAL
