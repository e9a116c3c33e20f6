/-! swap. Written by wip/gen/gen52.py -/
theorem pr_H2 {m7 m8 : Nat} {as : List AV} (V : GI → AV) (Hf : GI → GI)
    (h7 : ∀ c g h r, 0 ≤ c → c ≤ 3072 → Iv c g h r → Ou m7 0 (am_ini m7 (vR 7 0 :: as)) [] g r (fun x g1 r1 => x = some (V h) ∧ Fm g g1 ∧ Iv (c + 1) g1 (Hf h) r1))
    (h8 : ∀ c g0 g r0 r, 0 ≤ c → c ≤ 3072 → Iv c g0 g r0 → am_St r → Ou m8 0 (am_ini m8 (vR 8 0 :: as)) [] g r (fun x g1 r1 => x = some (V g) ∧ r1 = r ∧ FH (Hf g) g g1))
    (hV : ∀ c g h h1 r, Iv c g h r → Ag h h1 → V h1 = V h ∧ Ag (Hf h) (Hf h1)) : Pr m7 m8 as := by
  refine pr_G (fun c g r c0 c1 i => ⟨some (V g), Hf g, h7 c g g r c0 c1 i, fun g1 r1 hM hS => ?_⟩)
  have a := Ag_M hM
  obtain ⟨n, v, g2, r2, e1, e2, e3, e4⟩ := h8 c g g1 r r1 c0 c1 (Iv_h hM i) hS
  have w := hV c g g g1 r i a
  exact ⟨n, v, g2, r2, e1, by rw [e2, w.1], e3, Ag_tr w.2 e4.1, e4.2⟩
theorem p_swap (p : Int) : Pr 64 166 [vI p] := pr_H2 (fun h => vI (swV h p)) (fun h => SwH h p) (fun c g h r _ _ hI => c7_swap p hI) (fun c g0 g r0 r _ _ hI hS => c8_swap p hI hS) (fun c g h h1 r hI a => by
  have s2 := hI.2.2.2.2.2.2.1.2.2.1
  have e8 := a.1 8 (by omega) (by decide)
  show vI (swV h1 p) = vI (swV h p) ∧ Ag (SwH h p) (SwH h1 p)
  unfold swV SwH swok
  rw [e8]
  by_cases e : 0 ≤ p ∧ p < h 8 0 19 - 1
  · have w := sv_c e.1 (by omega) a
    rw [w.1, w.2]
    refine ⟨rfl, ?_⟩
    by_cases e2 : (0 ≤ p ∧ p < h 8 0 19 - 1) ∧ sv3 h p ≠ 0 ∧ sv4 h p ≠ 0
    · rw [cif_t e2, cif_t e2]; exact swf_c (by omega) (by omega) a
    · rw [cif_f e2, cif_f e2]; exact a
  · rw [cif_f e, cif_f e, cif_f (fun z => e z.1), cif_f (fun z => e z.1)]
    exact ⟨rfl, a⟩)
