/-! the component beside a reference's heap of its own; a stage laid. Written by wip/gen/gen45.py -/
def Ag (h h' : GI) : Prop := (∀ k, (k = 8 ∨ (17 ≤ k ∧ k ≤ 29)) → k ≠ 26 → h' k = h k) ∧ ∀ s, s < 324 → h' 26 0 s = h 26 0 s
def FM (g g' : GI) : Prop := ∀ k, k ≠ 30 → k ≠ 31 → k ≠ 32 → k ≠ 33 → g' k = g k
theorem FM_8 {g g' : GI} (f : F8 g g') : FM g g' := fun k a b c _ => f k a b c
theorem FM_tr {g g1 g2 : GI} (a : FM g g1) (b : FM g1 g2) : FM g g2 := fun k h1 h2 h3 h4 => (b k h1 h2 h3 h4).trans (a k h1 h2 h3 h4)
theorem FM_refl (g : GI) : FM g g := fun _ _ _ _ _ => rfl
theorem FM_Ag {g g' : GI} (f : FM g g') : Ag g g' := ⟨fun k h _ => f k (by omega) (by omega) (by omega) (by omega), fun s _ => by rw [f 26 (by decide) (by decide) (by decide) (by decide)]⟩
theorem Ag_refl (h : GI) : Ag h h := ⟨fun _ _ _ => rfl, fun _ _ => rfl⟩
theorem Ag_tr {h h1 h2 : GI} (a : Ag h h1) (b : Ag h1 h2) : Ag h h2 := ⟨fun k x y => (b.1 k x y).trans (a.1 k x y), fun s x => (b.2 s x).trans (a.2 s x)⟩
theorem Iv_G {c c' : Int} {g G h H r R : GI} (hc : c ≤ c') (f : ∀ k, (k ≤ 5 ∨ k = 7 ∨ (9 ≤ k ∧ k ≤ 12) ∨ (14 ≤ k ∧ k ≤ 16)) → G k = g k) (F : Ag h H) (fr : ∀ k, k ≠ 6 → R k = r k) (h6 : R6 R) (i : Iv c g h r) : Iv c' G H R := by
  obtain ⟨i1, i2, i3, i4, i5, i6, i7, i8, i9⟩ := i
  refine ⟨⟨St_F i1.1 fr, Rg_F i1.2.1 fr h6, h6, ?_⟩, Isg_c (g := g) (h := h) (by rw [f 7 (by omega)]) (by rw [F.1 8 (by omega) (by decide)]) i2, Itx_c (g := g) (h := h) (by rw [f 5 (by omega)]) (by rw [F.1 8 (by omega) (by decide)]) (by rw [f 12 (by omega)]) (by rw [F.1 21 (by omega) (by decide)]) i3,
    Iru_c (g := g) (h := h) (r := r) (by omega) i1.2.1 (fun _ _ _ => by rw [f 1 (by omega)]) (fun _ _ _ => by rw [f 10 (by omega)]) (f 2 (by omega)) (by rw [f 7 (by omega)]) (by rw [F.1 8 (by omega) (by decide)]) (by rw [F.1 22 (by omega) (by decide)]) (by rw [F.1 23 (by omega) (by decide)]) (by rw [F.1 24 (by omega) (by decide)]) (by rw [F.1 8 (by omega) (by decide)]) (by rw [fr 14 (by decide)]) i4,
    Iwd_c (g := g) (h := h) (by omega) (by rw [f 1 (by omega)]) (by rw [f 10 (by omega)]) (by rw [f 7 (by omega)]) (by rw [F.1 8 (by omega) (by decide)]) (by rw [F.1 25 (by omega) (by decide)]) (by rw [F.1 8 (by omega) (by decide)]) i5,
    Inw_c (g := g) (h := h) (by rw [f 0 (by omega)]) (by rw [f 9 (by omega)]) (by rw [F.1 27 (by omega) (by decide)]) (by rw [F.1 28 (by omega) (by decide)]) (fun s _ _ => F.2 s (by omega)) i6,
    Ist_c (g := g) (h := h) (r := r) i1.2.1 (by rw [f 7 (by omega)]) (f 4 (by omega)) (fun _ _ _ => by rw [f 0 (by omega)]) (fun _ _ _ => by rw [f 9 (by omega)]) (by rw [F.1 8 (by omega) (by decide)]) (by rw [F.1 8 (by omega) (by decide)]) (by rw [F.1 8 (by omega) (by decide)]) (by rw [F.1 29 (by omega) (by decide)]) (fun _ _ => by rw [F.1 27 (by omega) (by decide)]) (fun _ _ => by rw [F.1 28 (by omega) (by decide)]) (fun s _ => F.2 s (by omega)) (by rw [F.1 22 (by omega) (by decide)]) (by rw [F.1 23 (by omega) (by decide)]) (by rw [fr 15 (by decide)]) i7,
    Ish_c (g := g) (h := h) (f 3 (by omega)) (f 11 (by omega)) (by rw [F.1 17 (by omega) (by decide)]) (by rw [F.1 18 (by omega) (by decide)]) (by rw [F.1 19 (by omega) (by decide)]) i8, Ila_c (g := g) (h := h) (by rw [f 7 (by omega)]) (by rw [F.1 8 (by omega) (by decide)]) i9⟩
  unfold Pj
  rw [fr 14 (by decide), fr 15 (by decide)]
  exact i1.2.2.2
theorem Iv_GJ {c : Int} {g h r g1 r1 : GI} (f : FJ g r g1 r1) (i : Iv c g h r) : Iv c g1 h r1 := Iv_G (Int.le_refl c) (fun k a => f.1 k (by omega) (by omega)) (Ag_refl h) f.2.1 f.2.2 i
/-- both calls, the reference's heap H foreseen -/
theorem pr_G {m7 m8 : Nat} {as : List AV} (K : ∀ c g r, 0 ≤ c → c ≤ 3072 → Iv c g g r → ∃ v H, Ou m7 0 (am_ini m7 (vR 7 0 :: as)) [] g r (fun x g1 r1 => x = v ∧ (∀ k, isM k ∨ k = 34 ∨ k = 35 → g1 k = g k) ∧ Iv (c + 1) g1 H r1) ∧ ∀ g1 r1, (∀ k, isM k → g1 k = g k) → am_St r1 → Ou m8 0 (am_ini m8 (vR 8 0 :: as)) [] g1 r1 (fun x g2 r2 => x = v ∧ r2 = r1 ∧ Ag H g2 ∧ ∀ k, ¬ isM k → g2 k = g1 k)) : Pr m7 m8 as := by
  intro c g r c0 c1 i
  obtain ⟨v, H, h7, h8⟩ := K c g r c0 c1 i
  obtain ⟨n1, v1, g1, r1, e1, e2, e3, e4⟩ := h7
  subst e2
  refine ⟨n1, _, _, _, e1, ?_⟩
  obtain ⟨v2, g2, r2, d1, d2, d3, d4, d5⟩ := rt_ex (h8 g1 r1 (fun k hk => e3 k (Or.inl hk)) e4.1.1)
  subst d2; subst d3
  exact ⟨g2, _, d1, Iv_G (Int.le_refl _) (fun k a => d5 k (by unfold isM; omega)) d4 (fun _ _ => rfl) e4.1.2.2.1 e4, (d5 34 (by unfold isM; omega)).trans (e3 34 (by omega)), (d5 35 (by unfold isM; omega)).trans (e3 35 (by omega))⟩
/-- falling, from a heap of its own -/
theorem c7_fallG {c : Int} {g h r : GI} (hI : Iv c g h r) {e st ρ n : Int} {E : Int → Int → Int → Int} (he : 0 ≤ e) (he1 : e < 10) (hb : Br ρ n E) (hV : Vr7 g e ρ n E) : ∃ g1 r1, Rt 102 [vR 7 0, vR 0 e, vI st] g r (some (vI (FB ρ n E (h 8 0 5) (h 8 0 8) (L8 h) (W8 h) st))) g1 r1 ∧ FJ g r g1 r1 := by
  obtain ⟨⟨hS, hR, h6, hP⟩, hsg, htx, hru, hwd, hnw, hst, hsh, hla⟩ := hI
  have m1 := hsg.1
  have m2 := hsg.2.1
  have m3 := hsg.2.2
  obtain ⟨v1, g1, r1, hc, hv, f1⟩ := rt_ex (c7_falling (m := h 8 0 5) hS hR h6 he he1 hb hV hru.2.1 hru.1 st (by omega) (by omega) m3.symm)
  subst hv
  exact ⟨g1, r1, hc, f1⟩
theorem c8_fallG {c : Int} {g g0 r r0 : GI} (hI : Iv c g0 g r0) (hS : am_St r) {d st : Int} (hd : 0 ≤ d) (hd1 : d < 9) {ρ n : Int} {E : Int → Int → Int → Int} (hb : Br ρ n E) (hV : Vr8 g d ρ n E) : ∃ g1, Rt 141 [vR 8 0, vI d, vI st] g r (some (vI (FB ρ n E (g 8 0 5) (g 8 0 8) (L8 g) (W8 g) st))) g1 r ∧ F8 g g1 := by
  obtain ⟨⟨hS0, hR, h6, hP⟩, hsg, htx, hru, hwd, hnw, hst, hsh, hla⟩ := hI
  have m1 := hsg.1
  have m2 := hsg.2.1
  have m3 := hsg.2.2
  have m4 := hru.2.1.1
  obtain ⟨v1, g1, r1, hc, hv, hr, f1⟩ := rt_ex (c8_falling (m := g 8 0 5) hS hd hd1 hb hV hru.2.1 (Vu8_E m4.1) st (by omega) (by omega) rfl)
  subst hv
  subst hr
  exact ⟨g1, hc, f1⟩
theorem gcpy_s {g : GI} {k1 k2 : Nat} {i1 i2 p q v : Int} (v0 : 0 ≤ v) (h : ¬ (k1 = k2 ∧ i1 = i2 ∧ q ≤ p + v ∧ p + v < q + v)) : gset (gcpy g k1 i1 p k2 i2 q v) k2 i2 (q + v) (gcpy g k1 i1 p k2 i2 q v k1 i1 (p + v)) = gcpy g k1 i1 p k2 i2 q (v + 1) := by
  funext k i s
  unfold gset gcpy
  by_cases e : k = k2 ∧ i = i2 ∧ s = q + v
  · rw [if_pos e, if_neg h, if_pos ⟨e.1, e.2.1, by omega, by omega⟩, show p + (s - q) = p + v by omega]
  · rw [if_neg e]
    by_cases w : k = k2 ∧ i = i2 ∧ q ≤ s ∧ s < q + v
    · rw [if_pos w, if_pos ⟨w.1, w.2.1, by omega, by omega⟩]
    · rw [if_neg w, if_neg (fun z => w ⟨z.1, z.2.1, z.2.2.1, by
        by_cases a : s = q + v
        · exact absurd ⟨z.1, z.2.1, a⟩ e
        · omega⟩)]
theorem gcpy_0 {g : GI} {k1 k2 : Nat} {i1 i2 p q : Int} : gcpy g k1 i1 p k2 i2 q 0 = g := by
  funext k i s
  unfold gcpy
  rw [if_neg (fun z => by omega)]
theorem gcpy_kf {g : GI} {k1 k2 k : Nat} {i1 i2 p q v : Int} (h : k ≠ k2) : gcpy g k1 i1 p k2 i2 q v k = g k := by
  funext i s
  unfold gcpy
  rw [if_neg (fun z => h z.1)]
theorem gcpy_o {g : GI} {k1 k2 k : Nat} {i1 i2 p q v i s : Int} (h : s < q ∨ q + v ≤ s) : gcpy g k1 i1 p k2 i2 q v k i s = g k i s := by
  unfold gcpy
  rw [if_neg (fun z => by omega)]
theorem gcpy_i {g : GI} {k1 k2 : Nat} {i1 i2 p q v s : Int} (h0 : q ≤ s) (h1 : s < q + v) : gcpy g k1 i1 p k2 i2 q v k2 i2 s = g k1 i1 (p + (s - q)) := by
  unfold gcpy
  rw [if_pos ⟨rfl, rfl, h0, h1⟩]
theorem gcpy_ni {g : GI} {k1 k2 k : Nat} {i1 i2 p q v i s : Int} (h : i ≠ i2) : gcpy g k1 i1 p k2 i2 q v k i s = g k i s := by
  unfold gcpy
  rw [if_neg (fun z => h z.2.1)]
def tkf (g : GI) (d e : Int) : GI := gcpy (gset (gset g 0 d 0 (g 0 e 0)) 0 d 1 (gset g 0 d 0 (g 0 e 0) 0 e 1)) 9 e 0 9 d 0 36
theorem tkf_k {g : GI} {d e : Int} {k : Nat} (h0 : k ≠ 0) (h9 : k ≠ 9) : tkf g d e k = g k := by
  unfold tkf
  rw [gcpy_kf h9, gset_kf h0, gset_kf h0]
theorem tkf_o {g : GI} {d e q s : Int} {k : Nat} (h : q ≠ d) : tkf g d e k q s = g k q s := by
  unfold tkf
  rw [gcpy_ni h, gset_i h, gset_i h]
theorem tkf_V {g : GI} {d e ρ n : Int} {E : Int → Int → Int → Int} (h : e ≠ d) (v : Vr7 g e ρ n E) : Vr7 (tkf g d e) d ρ n E := by
  unfold tkf
  refine ⟨?_, ?_, fun s z y a0 a1 b0 b1 c0 c1 => ?_⟩
  · rw [gcpy_kf (by decide), gset_s (by decide), gset_at]; exact v.1
  · rw [gcpy_kf (by decide), gset_at, gset_i h]; exact v.2.1
  · rw [gcpy_i (by omega) (by omega), gset_k rfl, gset_k rfl, show 0 + (s * 9 + y + z * 3 - 0) = s * 9 + y + z * 3 by omega]; exact v.2.2 s z y a0 a1 b0 b1 c0 c1
def mvf (h : GI) (a b : Int) : GI := gset (gset (gcpy h 26 0 (36 * a) 26 0 (36 * b) 36) 27 0 b (h 27 0 a)) 28 0 b (h 28 0 a)
def Sgf (h : GI) (v : Int) : GI := gset (gset (mvf h 8 (h 8 0 19)) 29 0 (h 8 0 19) v) 8 0 19 (h 8 0 19 + 1)
theorem Sgf_c {h h1 : GI} {v : Int} (a : Ag h h1) : Ag (Sgf h v) (Sgf h1 v) := by
  have e8 := a.1 8 (by omega) (by decide)
  have e27 := a.1 27 (by omega) (by decide)
  have e28 := a.1 28 (by omega) (by decide)
  refine ⟨fun k hk k26 => ?_, fun s hs => ?_⟩
  · have ek := a.1 k hk k26
    funext i s
    unfold Sgf mvf
    rw [e8, e27, e28]
    unfold gset
    rw [gcpy_kf k26, gcpy_kf k26, ek]
  · unfold Sgf mvf
    rw [e8, gset_k rfl, gset_k rfl, gset_k rfl, gset_k rfl, gset_k rfl, gset_k rfl, gset_k rfl, gset_k rfl]
    unfold gcpy
    by_cases z : 26 = 26 ∧ (0 : Int) = 0 ∧ 36 * h 8 0 19 ≤ s ∧ s < 36 * h 8 0 19 + 36
    · rw [if_pos z, if_pos z, a.2 _ (by omega)]
    · rw [if_neg z, if_neg z, a.2 s hs]
theorem FB8_c {h h' : GI} {d d' st : Int} (b0 : h' 8 0 5 = h 8 0 5) (b1 : h' 8 0 8 = h 8 0 8) (b4 : h' 27 0 d' = h 27 0 d) (b5 : h' 28 0 d' = h 28 0 d) (hE : E8 h' d' = E8 h d) (b7 : h' 22 0 = h 22 0) (b8 : h' 23 0 = h 23 0) : FB8 h' d' st = FB8 h d st := by
  unfold FB8
  rw [b4, b5, hE, L8_c b8, W8_c b7, b0, b1]
theorem E8_mv {h h' : GI} {d d' : Int} (a : ∀ s, 0 ≤ s → s < 36 → h' 26 0 (36 * d' + s) = h 26 0 (36 * d + s)) : E8 h' d' = E8 h d := by
  funext s z y
  unfold E8
  by_cases e : (0 ≤ s ∧ s < 4) ∧ (0 ≤ z ∧ z < 3) ∧ (0 ≤ y ∧ y < 3)
  · rw [cif_t e, cif_t e]
    have := a (9 * s + 3 * z + y) (by omega) (by omega)
    rw [show 36 * d' + 9 * s + 3 * z + y = 36 * d' + (9 * s + 3 * z + y) by omega, show 36 * d + 9 * s + 3 * z + y = 36 * d + (9 * s + 3 * z + y) by omega]
    exact this
  · rw [cif_f e, cif_f e]
section LAY
variable {c : Int} {g h r : GI} {v : Int}
def Lyf (g r : GI) (v : Int) : GI := gset (tkf (gset g 4 (r 15 0 (g 7 0 11)) 1 v) (2 + r 15 0 (g 7 0 11)) 0) 7 0 11 (g 7 0 11 + 1)
theorem Ist_lay (hR : am_Rg r) (hP : Pj r) (hnw : Inw g h) (hst : Ist g h r) (hr8 : h 8 0 8 ≤ 8) (hv : v = FB8 h 8 (st8 h (h 8 0 19))) (hv0 : v ≠ 0) : Ist (Lyf g r v) (Sgf h v) r := by
  have room := st_room hst hr8 (d := 8) (by rw [← hv]; exact hv0)
  obtain ⟨u, w, x, y⟩ := hst
  have hj := hR.2.1 (g 7 0 11) (by omega) (by omega)
  have s19 : Sgf h v 8 0 19 = h 8 0 19 + 1 := gset_at
  have s8 : ∀ s, s ≠ 19 → Sgf h v 8 0 s = h 8 0 s := fun s hs => by
    unfold Sgf mvf
    rw [gset_s hs, gset_k rfl, gset_k rfl, gset_k rfl, gcpy_kf (by decide)]
  have s29 : ∀ k, k ≠ h 8 0 19 → Sgf h v 29 0 k = h 29 0 k := fun k hk => by
    unfold Sgf mvf
    rw [gset_k rfl, gset_s hk, gset_k rfl, gset_k rfl, gcpy_kf (by decide)]
  have s27 : ∀ k, k ≠ h 8 0 19 → Sgf h v 27 0 k = h 27 0 k := fun k hk => by
    unfold Sgf mvf
    rw [gset_k rfl, gset_k rfl, gset_k rfl, gset_s hk, gcpy_kf (by decide)]
  have s28 : ∀ k, k ≠ h 8 0 19 → Sgf h v 28 0 k = h 28 0 k := fun k hk => by
    unfold Sgf mvf
    rw [gset_k rfl, gset_k rfl, gset_s hk, gset_k rfl, gcpy_kf (by decide)]
  have s26 : Sgf h v 26 = gcpy h 26 0 (36 * 8) 26 0 (36 * h 8 0 19) 36 26 := by
    unfold Sgf mvf
    rw [gset_kf (by decide), gset_kf (by decide), gset_kf (by decide), gset_kf (by decide)]
  have sw : ∀ K, (K = 22 ∨ K = 23) → Sgf h v K = h K := fun K hK => by
    unfold Sgf mvf
    rw [gset_kf (by omega), gset_kf (by omega), gset_kf (by omega), gset_kf (by omega), gcpy_kf (by omega)]
  have sE : ∀ k, 0 ≤ k → k ≠ h 8 0 19 → E8 (Sgf h v) k = E8 h k := fun k k0 hk => E8_c k0 (fun s a b => by rw [s26, gcpy_o (by omega)])
  have sst : ∀ k, k ≤ h 8 0 19 → st8 (Sgf h v) k = st8 h k := fun k hk => st8_c (by omega) (s8 8 (by decide)) (fun s a b => s29 s (by omega))
  have g7 : Lyf g r v 7 0 11 = g 7 0 11 + 1 := gset_at
  have g4 : ∀ i s, Lyf g r v 4 i s = gset g 4 (r 15 0 (g 7 0 11)) 1 v 4 i s := fun i s => by
    unfold Lyf
    rw [gset_k rfl, tkf_k (by decide) (by decide)]
  have gV : ∀ q ρ n E, q ≠ 2 + r 15 0 (g 7 0 11) → Vr7 g q ρ n E → Vr7 (Lyf g r v) q ρ n E := fun q ρ n E hq V => by
    unfold Lyf
    refine ⟨?_, ?_, fun s z y a0 a1 b0 b1 c0 c1 => ?_⟩
    · rw [gset_k rfl, tkf_o hq, gset_k rfl]; exact V.1
    · rw [gset_k rfl, tkf_o hq, gset_k rfl]; exact V.2.1
    · rw [gset_k rfl, tkf_o hq, gset_k rfl]; exact V.2.2 s z y a0 a1 b0 b1 c0 c1
  refine ⟨by rw [g7, s19, u], by rw [s19]; omega, by rw [s19]; omega, fun k k0 k1 => ?_⟩
  rw [s19] at k1
  by_cases e : k = h 8 0 19
  · have eE : E8 (Sgf h v) k = E8 h 8 := E8_mv (fun s a b => by rw [s26, e, gcpy_i (by omega) (by omega), show 36 * 8 + (36 * h 8 0 19 + s - 36 * h 8 0 19) = 36 * 8 + s by omega])
    have e27 : Sgf h v 27 0 k = h 27 0 8 := by
      rw [e]; unfold Sgf mvf
      rw [gset_k rfl, gset_k rfl, gset_k rfl, gset_at]
    have e28 : Sgf h v 28 0 k = h 28 0 8 := by
      rw [e]; unfold Sgf mvf
      rw [gset_k rfl, gset_k rfl, gset_at]
    have e29 : Sgf h v 29 0 k = v := by
      rw [e]; unfold Sgf
      rw [gset_k rfl, gset_at]
    rw [e29, e27, e28, eE]
    refine ⟨?_, ?_, hnw.2, hv0, ?_⟩
    · rw [g4, e, ← u, gset_at]
    · rw [e, ← u]
      unfold Lyf
      have t1 := tkf_V (g := gset g 4 (r 15 0 (g 7 0 11)) 1 v) (d := 2 + r 15 0 (g 7 0 11)) (e := 0) (by omega) (show Vr7 _ 0 (h 27 0 8) (h 28 0 8) (E8 h 8) from Vr7_k (g := g) (gset_kf (by decide)) (gset_kf (by decide)) hnw.1)
      exact Vr7_k (gset_kf (by decide)) (gset_kf (by decide)) t1
    · rw [sst k (by omega), e, FB8_c (h := h) (d := 8) (s8 5 (by decide)) (s8 8 (by decide)) (by rw [← e]; exact e27) (by rw [← e]; exact e28) (by rw [← e]; exact eE) (by rw [sw 22 (by omega)]) (by rw [sw 23 (by omega)])]
      exact hv
  · obtain ⟨y1, y2, y3, y4, y5⟩ := y k k0 (by omega)
    have hk := hR.2.1 k k0 (by omega)
    have hne : r 15 0 k ≠ r 15 0 (g 7 0 11) := fun z => e ((hP.2 k (g 7 0 11) k0 (by omega) (by omega) (by omega) z).trans u)
    rw [s29 k e, s27 k e, s28 k e, sE k k0 e, sst k (by omega), FB8_c (h := h) (d := k) (s8 5 (by decide)) (s8 8 (by decide)) (s27 k e) (s28 k e) (sE k k0 e) (by rw [sw 22 (by omega)]) (by rw [sw 23 (by omega)])]
    refine ⟨?_, gV _ _ _ _ (by omega) y2, y3, y4, y5⟩
    rw [g4, gset_i hne]; exact y1
theorem Iv_lay (hI : Iv c g h r) (hv : v = FB8 h 8 (st8 h (h 8 0 19))) (hv0 : v ≠ 0) : Iv c (Lyf g r v) (Sgf h v) r := by
  obtain ⟨⟨hS, hR, h6, hP⟩, hsg, htx, hru, hwd, hnw, hst, hsh, hla⟩ := hI
  have hr8 := hru.2.1.1.2
  have room := st_room hst hr8 (d := 8) (by rw [← hv]; exact hv0)
  have hlen := hst.1
  have hl0 := hst.2.1
  have hj := hR.2.1 (g 7 0 11) (by omega) (by omega)
  have G : ∀ k, k ≠ 0 → k ≠ 4 → k ≠ 7 → k ≠ 9 → Lyf g r v k = g k := fun k a b d e => by
    unfold Lyf
    rw [gset_kf d, tkf_k a e, gset_kf b]
  have G7 : ∀ s, s ≠ 11 → Lyf g r v 7 0 s = g 7 0 s := fun s hs => by
    unfold Lyf
    rw [gset_s hs, tkf_k (by decide) (by decide), gset_k rfl]
  have Gq : ∀ k s, k = 0 ∨ k = 9 → Lyf g r v k 0 s = g k 0 s := fun k s hk => by
    unfold Lyf
    rw [gset_kf (by omega), tkf_o (by omega), gset_kf (by omega)]
  have H : ∀ k, k ≠ 8 → (k < 26 ∨ 29 < k) → Sgf h v k = h k := fun k a b => by
    unfold Sgf mvf
    rw [gset_kf a, gset_kf (by omega), gset_kf (by omega), gset_kf (by omega), gcpy_kf (by omega)]
  have H8 : ∀ s, s ≠ 19 → Sgf h v 8 0 s = h 8 0 s := fun s hs => by
    unfold Sgf mvf
    rw [gset_s hs, gset_k rfl, gset_k rfl, gset_k rfl, gcpy_kf (by decide)]
  refine ⟨⟨hS, hR, h6, hP⟩, Isg_c (g := g) (h := h) (G7 9 (by decide)) (H8 5 (by decide)) hsg, Itx_c (g := g) (h := h) (by rw [G 5 (by decide) (by decide) (by decide) (by decide)]) (H8 7 (by decide)) (by rw [G 12 (by decide) (by decide) (by decide) (by decide)]) (by rw [H 21 (by decide) (by decide)]) htx,
    Iru_c (g := g) (h := h) (r := r) (by omega) hR (fun _ _ _ => by rw [G 1 (by decide) (by decide) (by decide) (by decide)]) (fun _ _ _ => by rw [G 10 (by decide) (by decide) (by decide) (by decide)]) (G 2 (by decide) (by decide) (by decide) (by decide)) (G7 10 (by decide)) (H8 8 (by decide)) (by rw [H 22 (by decide) (by decide)]) (by rw [H 23 (by decide) (by decide)]) (by rw [H 24 (by decide) (by decide)]) (H8 12 (by decide)) rfl hru,
    Iwd_c (g := g) (h := h) (by omega) (by rw [G 1 (by decide) (by decide) (by decide) (by decide)]) (by rw [G 10 (by decide) (by decide) (by decide) (by decide)]) (G7 12 (by decide)) (H8 14 (by decide)) (by rw [H 25 (by decide) (by decide)]) (H8 15 (by decide)) hwd,
    Inw_c (g := g) (h := h) (by funext s; exact Gq 0 s (by omega)) (by funext s; exact Gq 9 s (by omega)) ?_ ?_ (fun s a b => ?_) hnw,
    Ist_lay hR hP hnw hst hr8 hv hv0,
    Ish_c (g := g) (h := h) (G 3 (by decide) (by decide) (by decide) (by decide)) (G 11 (by decide) (by decide) (by decide) (by decide)) (by rw [H 17 (by decide) (by decide)]) (by rw [H 18 (by decide) (by decide)]) (by rw [H 19 (by decide) (by decide)]) hsh, Ila_c (g := g) (h := h) (G7 13 (by decide)) (H8 4 (by decide)) hla⟩
  · unfold Sgf mvf
    rw [gset_k rfl, gset_k rfl, gset_k rfl, gset_s (by omega), gcpy_kf (by decide)]
  · unfold Sgf mvf
    rw [gset_k rfl, gset_k rfl, gset_s (by omega), gset_k rfl, gcpy_kf (by decide)]
  · unfold Sgf mvf
    rw [gset_k rfl, gset_k rfl, gset_k rfl, gset_k rfl, gcpy_o (by omega)]
end LAY
section LAY7
variable {c : Int} {g h r : GI} {v : Int}
theorem c7_layStage (hI : Iv c g h r) (hv : v = FB8 h 8 (st8 h (h 8 0 19))) (hv0 : v ≠ 0) : Ou 103 0 (am_ini 103 [vR 7 0, vI v]) [] g r (fun x g1 r1 => x = none ∧ r1 = r ∧ g1 = Lyf g r v) := by
  show Ou 103 0 [vR 7 0, vI v] [] g r _
  obtain ⟨⟨hS, hR, h6, hP⟩, hsg, htx, hru, hwd, hnw, hst, hsh, hla⟩ := id hI
  have room := st_room hst hru.2.1.1.2 (d := 8) (by rw [← hv]; exact hv0)
  have hlen := hst.1
  have hl0 := hst.2.1
  refine o_aload_n (n := 1) rfl rfl rfl ?_
  refine o_geti (n := 4) rfl rfl rfl rfl rfl ?_
  refine o_bipush (n := 6) rfl rfl ?_
  refine o_icmp_ge (n := 9) (t := 51) rfl rfl rfl (fun q6 => (by exfalso; omega)) (fun q6 => ?_)
  refine o_aload_n (n := 10) rfl rfl rfl ?_
  refine of_7_3 (n := 13) hS rfl rfl ?_
  refine o_aload_n (n := 14) rfl rfl rfl ?_
  refine o_geti (n := 17) rfl rfl rfl rfl rfl ?_
  refine o_ra15 (n := 18) hR rfl rfl (by omega) (by omega) (fun hA17 hB17 => ?_)
  refine o_iload_n (n := 19) rfl rfl rfl ?_
  refine o_puti (n := 22) rfl rfl rfl (ok_4 (by omega) (by omega)) rfl ?_
  refine o_aload_n (n := 23) rfl rfl rfl ?_
  refine of_7_3 (n := 26) hS rfl rfl ?_
  refine o_aload_n (n := 27) rfl rfl rfl ?_
  refine o_geti (n := 30) rfl rfl rfl rfl rfl ?_
  rw [gset_k rfl]
  refine o_ra15 (n := 31) hR rfl rfl (by omega) (by omega) (fun hA30 hB30 => ?_)
  refine of_4_0 (n := 34) hS rfl rfl (by omega) (by omega) ?_
  refine o_aload_n (n := 35) rfl rfl rfl ?_
  refine of_7_5 (n := 38) hS rfl rfl ?_
  refine o_invv (n := 41) rfl rfl rfl rfl rfl rfl rfl rfl rfl (ok_0 (by omega) (by omega)) (c0_takeFrom hS _ _ (by omega) (by omega) (by omega) (by omega)) ?_
  show Ou _ _ _ _ (tkf _ _ _) _ _
  refine o_aload_n (n := 42) rfl rfl rfl ?_
  refine o_dup (n := 43) rfl rfl rfl ?_
  refine o_geti (n := 46) rfl rfl rfl rfl rfl ?_
  rw [tkf_k (by decide) (by decide), gset_k rfl]
  refine o_iconst (n := 47) rfl rfl ?_
  refine o_iadd (n := 48) rfl rfl (by omega) ?_
  refine o_puti (n := 51) rfl rfl rfl rfl rfl ?_
  refine o_vret rfl ?_
  exact ⟨rfl, rfl, rfl⟩
theorem l8_moves (hS : am_St r) {a b : Int} (ha : 0 ≤ a) (ha1 : a < 9) (hb : 0 ≤ b) (hb1 : b < 9) (hab : a ≠ b) : ∀ (m : Nat) (k : Int), (0 ≤ k) → (k + m = 36) → Ou 157 2 [vR 8 0, vI a, vI b, vI k] [] (gcpy g 26 0 (36 * a) 26 0 (36 * b) k) r (Rq none (mvf g a b) r) := by
  intro m
  induction m with
  | zero =>
    intro k i0 i1
    have hk : k = 36 := by omega
    subst hk
    refine o_iload_n (n := 3) rfl rfl rfl ?_
    refine o_bipush (n := 5) rfl rfl ?_
    refine o_icmp_ge (n := 8) (t := 36) rfl rfl rfl (fun q5 => ?_) (fun q5 => (by exfalso; omega))
    refine o_aload_n (n := 37) rfl rfl rfl ?_
    refine of_8_17 (n := 40) hS rfl rfl ?_
    refine o_iload_n (n := 41) rfl rfl rfl ?_
    refine o_aload_n (n := 42) rfl rfl rfl ?_
    refine of_8_17 (n := 45) hS rfl rfl ?_
    refine o_iload_n (n := 46) rfl rfl rfl ?_
    refine o_iald (n := 47) (L := 9) rfl rfl rfl rfl rfl (by omega) (by omega) ?_
    refine o_iast (n := 48) (L := 9) rfl rfl rfl rfl rfl (by omega) (by omega) ?_
    refine o_aload_n (n := 49) rfl rfl rfl ?_
    refine of_8_18 (n := 52) hS rfl rfl ?_
    refine o_iload_n (n := 53) rfl rfl rfl ?_
    refine o_aload_n (n := 54) rfl rfl rfl ?_
    refine of_8_18 (n := 57) hS rfl rfl ?_
    refine o_iload_n (n := 58) rfl rfl rfl ?_
    refine o_iald (n := 59) (L := 9) rfl rfl rfl rfl rfl (by omega) (by omega) ?_
    try first | rw [gset_at] | rw [gset_k rfl] | rw [gset_s (by decide)]
    try first | rw [gset_at] | rw [gset_k rfl] | rw [gset_s (by decide)]
    refine o_iast (n := 60) (L := 9) rfl rfl rfl rfl rfl (by omega) (by omega) ?_
    refine o_vret rfl ?_
    refine ⟨rfl, ?_, rfl⟩
    unfold mvf
    congr 1
  | succ m ih =>
    intro k i0 i1
    refine o_iload_n (n := 3) rfl rfl rfl ?_
    refine o_bipush (n := 5) rfl rfl ?_
    refine o_icmp_ge (n := 8) (t := 36) rfl rfl rfl (fun q5 => (by exfalso; omega)) (fun q5 => ?_)
    refine o_aload_n (n := 9) rfl rfl rfl ?_
    refine of_8_16 (n := 12) hS rfl rfl ?_
    refine o_bipush (n := 14) rfl rfl ?_
    refine o_iload_n (n := 15) rfl rfl rfl ?_
    refine o_imul (n := 16) rfl rfl (by omega) ?_
    refine o_iload_n (n := 17) rfl rfl rfl ?_
    refine o_iadd (n := 18) rfl rfl (by omega) ?_
    refine o_aload_n (n := 19) rfl rfl rfl ?_
    refine of_8_16 (n := 22) hS rfl rfl ?_
    refine o_bipush (n := 24) rfl rfl ?_
    refine o_iload_n (n := 25) rfl rfl rfl ?_
    refine o_imul (n := 26) rfl rfl (by omega) ?_
    refine o_iload_n (n := 27) rfl rfl rfl ?_
    refine o_iadd (n := 28) rfl rfl (by omega) ?_
    refine o_iald (n := 29) (L := 324) rfl rfl rfl rfl rfl (by omega) (by omega) ?_
    refine o_iast (n := 30) (L := 324) rfl rfl rfl rfl rfl (by omega) (by omega) ?_
    refine o_iinc_3 (n := 33) rfl rfl rfl (by omega) ?_
    refine o_goto (t := 2) rfl rfl ?_
    rw [gcpy_s i0 (by omega)]
    exact ih (k + 1) (by omega) (by omega)
theorem c8_moves (hS : am_St r) {a b : Int} (ha : 0 ≤ a) (ha1 : a < 9) (hb : 0 ≤ b) (hb1 : b < 9) (hab : a ≠ b) : Rt 157 [vR 8 0, vI a, vI b] g r none (mvf g a b) r := by
  refine rt_of ?_
  show Ou 157 0 [vR 8 0, vI a, vI b, vN] [] g r _
  refine o_iconst (n := 1) rfl rfl ?_
  refine o_istore_3 (n := 2) rfl rfl rfl ?_
  have := l8_moves (g := g) hS ha ha1 hb hb1 hab 36 0 (by omega) (by omega)
  rw [gcpy_0] at this
  exact this
end LAY7
