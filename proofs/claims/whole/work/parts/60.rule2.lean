/-! rule, the reference's; rule. Written by wip/gen/gen60.py -/
def Pq (g g1 : GI) (R A la lb b : Int) : Prop := (∀ q, q ≠ 8 → q ≠ 22 → q ≠ 23 → g1 q = g q) ∧ (∀ s, s ≠ 12 → g1 8 0 s = g 8 0 s) ∧ (∀ s, s < 12 * R ∨ 12 * R + 12 ≤ s → g1 22 0 s = g 22 0 s) ∧ (∀ s, s ≠ 2 * R → s ≠ 2 * R + 1 → g1 23 0 s = g 23 0 s) ∧ (∀ s, 0 ≤ s → s < la → g1 22 0 (12 * R + s) = g 21 0 s - 97) ∧ g1 23 0 (2 * R) = la ∧ g1 23 0 (2 * R + 1) = lb ∧ (∀ s, 0 ≤ s → s < lb → g1 22 0 (12 * R + 6 + s) = g 21 0 (A + 1 + s) - 97) ∧ g1 8 0 12 = b
section RULE8
variable {c : Int} {g h r g0 r0 g1 : GI} {R A la lb b v : Int}
theorem Pq_r (P : Pq g g1 R A la lb b) (l1 : la ≤ 6) (b0 : 0 ≤ lb) (b1 : lb < 6) (ev : v = g 21 0 (A + 1 + lb) - 97) : Pq g (gset (gset g1 22 0 (6 * (2 * R + 1) + lb) v) 23 0 (2 * R + 1) (lb + 1)) R A la (lb + 1) b := by
  obtain ⟨p1, p2, p3, p4, p5, p6, p7, p8, p9⟩ := P
  refine ⟨fun q x y z => ?_, fun s hs => ?_, fun s hs => ?_, fun s hs ht => ?_, fun s s0 s1 => ?_, ?_, ?_, fun s s0 s1 => ?_, ?_⟩
  · rw [gset_kf z, gset_kf y]; exact p1 q x y z
  · rw [gset_k rfl, gset_k rfl]; exact p2 s hs
  · rw [gset_k rfl, gset_s (by omega)]; exact p3 s hs
  · rw [gset_s ht, gset_k rfl]; exact p4 s hs ht
  · rw [gset_k rfl, gset_s (by omega)]; exact p5 s s0 s1
  · rw [gset_s (by omega), gset_k rfl]; exact p6
  · rw [gset_at]
  · rw [gset_k rfl]
    by_cases e : s = lb
    · rw [show 12 * R + 6 + s = 6 * (2 * R + 1) + lb by omega, gset_at, ev, e]
    · rw [gset_s (by omega)]; exact p8 s s0 (by omega)
  · rw [gset_k rfl, gset_k rfl]; exact p9
theorem Pq_l (P : Pq g g1 R A la 0 b) (b0 : 0 ≤ la) (b1 : la < 6) (ev : v = g 21 0 la - 97) : Pq g (gset (gset g1 22 0 (6 * (2 * R) + la) v) 23 0 (2 * R) (la + 1)) R A (la + 1) 0 b := by
  obtain ⟨p1, p2, p3, p4, p5, p6, p7, p8, p9⟩ := P
  refine ⟨fun q x y z => ?_, fun s hs => ?_, fun s hs => ?_, fun s hs ht => ?_, fun s s0 s1 => ?_, ?_, ?_, fun s s0 s1 => ?_, ?_⟩
  · rw [gset_kf z, gset_kf y]; exact p1 q x y z
  · rw [gset_k rfl, gset_k rfl]; exact p2 s hs
  · rw [gset_k rfl, gset_s (by omega)]; exact p3 s hs
  · rw [gset_s hs, gset_k rfl]; exact p4 s hs ht
  · rw [gset_k rfl]
    by_cases e : s = la
    · rw [show 12 * R + s = 6 * (2 * R) + la by omega, gset_at, ev, e]
    · rw [gset_s (by omega)]; exact p5 s s0 (by omega)
  · rw [gset_at]
  · rw [gset_s (by omega), gset_k rfl]; exact p7
  · omega
  · rw [gset_k rfl, gset_k rfl]; exact p9
theorem Pq_b {b' : Int} (P : Pq g g1 R A la lb b) : Pq g (gset g1 8 0 12 b') R A la lb b' := by
  obtain ⟨p1, p2, p3, p4, p5, p6, p7, p8, p9⟩ := P
  refine ⟨fun q x y z => ?_, fun s hs => ?_, fun s hs => ?_, fun s hs ht => ?_, fun s s0 s1 => ?_, ?_, ?_, fun s s0 s1 => ?_, gset_at⟩
  · rw [gset_kf x]; exact p1 q x y z
  · rw [gset_s hs]; exact p2 s hs
  · rw [gset_k rfl]; exact p3 s hs
  · rw [gset_k rfl]; exact p4 s hs ht
  · rw [gset_k rfl]; exact p5 s s0 s1
  · rw [gset_k rfl]; exact p6
  · rw [gset_k rfl]; exact p7
  · rw [gset_k rfl]; exact p8 s s0 s1
noncomputable def nsb (g : GI) (R A : Int) : Int := cif (g 21 0 A = 62) (am_or (g 8 0 12) (am_shl 1 R)) (am_and (g 8 0 12) (am_xor (am_shl 1 R) (-1)))
theorem l8_ru1 {f : Int} (hS : am_St r) (eR : g 8 0 8 = R) (R0 : 0 ≤ R) (R1 : R < 8) (m1 : 1 ≤ g 8 0 5) (m2 : g 8 0 5 ≤ 4) (T1 : g 8 0 7 ≤ 20) (hA : Aok g 21 (g 8 0 5) (g 8 0 7) A) : ∀ (m : Nat) (k : Int) (t : AV) (g1 : GI), (A < k) → (k + m = g 8 0 7) → (Pq g g1 R A A (k - A - 1) (nsb g R A)) → Ou 128 68 [vR 8 0, vI f, vI 1, vI k, t] [] g1 r (fun x g2 r2 => x = some (vI R) ∧ r2 = r ∧ ∃ g1, Pq g g1 R A A (g 8 0 7 - A - 1) (nsb g R A) ∧ g2 = gset (gset (gset g1 24 0 R 0) 8 0 7 0) 8 0 8 (R + 1)) := by
  intro m
  induction m with
  | zero =>
    intro k t g1 i0 i1 P
    obtain ⟨a1, a2, a3, a4, a5⟩ := id hA
    obtain ⟨p1, p2, p3, p4, p5, p6, p7, p8, p9⟩ := id P
    have e21 : g1 21 = g 21 := p1 21 (by decide) (by decide) (by decide)
    have e5 : g1 8 0 5 = g 8 0 5 := p2 5 (by decide)
    have e7 : g1 8 0 7 = g 8 0 7 := p2 7 (by decide)
    have e8 : g1 8 0 8 = R := (p2 8 (by decide)).trans eR
    refine o_iload_n (n := 69) rfl rfl rfl ?_
    refine o_aload_n (n := 70) rfl rfl rfl ?_
    refine o_geti (n := 73) rfl rfl rfl rfl rfl ?_
    refine o_icmp_ge (n := 76) (t := 190) rfl rfl rfl (fun q73 => ?_) (fun q73 => (by exfalso; omega))
    refine o_aload_n (n := 191) rfl rfl rfl ?_
    refine of_8_11 (n := 194) hS rfl rfl ?_
    refine o_aload_n (n := 195) rfl rfl rfl ?_
    refine o_geti (n := 198) rfl rfl rfl rfl rfl ?_
    rw [e8]
    refine o_iconst (n := 199) rfl rfl ?_
    refine o_iast (n := 200) (L := 8) rfl rfl rfl rfl rfl (by omega) (by omega) ?_
    refine o_aload_n (n := 201) rfl rfl rfl ?_
    refine o_iconst (n := 202) rfl rfl ?_
    refine o_puti (n := 205) rfl rfl rfl rfl rfl ?_
    refine o_aload_n (n := 206) rfl rfl rfl ?_
    refine o_dup (n := 207) rfl rfl rfl ?_
    refine o_geti (n := 210) rfl rfl rfl rfl rfl ?_
    rw [gset_s (by decide), gset_k rfl, e8]
    refine o_iconst (n := 211) rfl rfl ?_
    refine o_iadd (n := 212) rfl rfl (by omega) ?_
    refine o_puti (n := 215) rfl rfl rfl rfl rfl ?_
    refine o_aload_n (n := 216) rfl rfl rfl ?_
    refine o_geti (n := 219) rfl rfl rfl rfl rfl ?_
    rw [gset_at]
    refine o_iconst (n := 220) rfl rfl ?_
    refine o_isub (n := 221) rfl rfl (by omega) ?_
    refine o_iret rfl rfl ?_
    refine ⟨congrArg (fun z => some (vI z)) (by omega), rfl, g1, ?_, rfl⟩
    have hk : k - A - 1 = g 8 0 7 - A - 1 := by omega
    rw [← hk]
    exact P
  | succ m ih =>
    intro k t g1 i0 i1 P
    obtain ⟨a1, a2, a3, a4, a5⟩ := id hA
    obtain ⟨p1, p2, p3, p4, p5, p6, p7, p8, p9⟩ := id P
    have e21 : g1 21 = g 21 := p1 21 (by decide) (by decide) (by decide)
    have e5 : g1 8 0 5 = g 8 0 5 := p2 5 (by decide)
    have e7 : g1 8 0 7 = g 8 0 7 := p2 7 (by decide)
    have e8 : g1 8 0 8 = R := (p2 8 (by decide)).trans eR
    have hl := a5 k (by omega) (by omega)
    unfold ltr at hl
    refine o_iload_n (n := 69) rfl rfl rfl ?_
    refine o_aload_n (n := 70) rfl rfl rfl ?_
    refine o_geti (n := 73) rfl rfl rfl rfl rfl ?_
    refine o_icmp_ge (n := 76) (t := 190) rfl rfl rfl (fun q73 => (by exfalso; omega)) (fun q73 => ?_)
    refine o_iconst (n := 77) rfl rfl ?_
    refine o_aload_n (n := 78) rfl rfl rfl ?_
    refine o_geti (n := 81) rfl rfl rfl rfl rfl ?_
    rw [e8]
    refine o_imul (n := 82) rfl rfl (by omega) ?_
    refine o_iload_n (n := 83) rfl rfl rfl ?_
    refine o_iadd (n := 84) rfl rfl (by omega) ?_
    refine o_istore_4 (n := 86) rfl rfl rfl ?_
    refine o_aload_n (n := 87) rfl rfl rfl ?_
    refine o_aload_n (n := 88) rfl rfl rfl ?_
    refine of_8_6 (n := 91) hS rfl rfl ?_
    refine o_iload_n (n := 92) rfl rfl rfl ?_
    refine o_iald (n := 93) (L := 20) rfl rfl rfl rfl rfl (by omega) (by omega) ?_
    rw [e21]
    have hcs := c8_isSign (g := g1) (r := r) (g 21 0 k) (by omega) (by omega)
    rw [e5] at hcs
    refine o_invi (n := 96) rfl rfl rfl rfl rfl rfl rfl rfl rfl rfl (hcs) ?_
    refine o_ifb_eq (n := 99) (t := 140) rfl rfl rfl (fun q96 => (by exfalso; exact q96 hl)) (fun q96 => ?_)
    refine o_aload_n (n := 100) rfl rfl rfl ?_
    refine of_8_9 (n := 103) hS rfl rfl ?_
    refine o_bipush (n := 105) rfl rfl ?_
    refine o_iload (n := 107) rfl rfl rfl ?_
    refine o_imul (n := 108) rfl rfl (by omega) ?_
    refine o_aload_n (n := 109) rfl rfl rfl ?_
    refine of_8_10 (n := 112) hS rfl rfl ?_
    refine o_iload (n := 114) rfl rfl rfl ?_
    refine o_iald (n := 115) (L := 16) rfl rfl rfl rfl rfl (by omega) (by omega) ?_
    rw [p7]
    refine o_iadd (n := 116) rfl rfl (by omega) ?_
    refine o_aload_n (n := 117) rfl rfl rfl ?_
    refine of_8_6 (n := 120) hS rfl rfl ?_
    refine o_iload_n (n := 121) rfl rfl rfl ?_
    refine o_iald (n := 122) (L := 20) rfl rfl rfl rfl rfl (by omega) (by omega) ?_
    rw [e21]
    refine o_bipush (n := 124) rfl rfl ?_
    refine o_isub (n := 125) rfl rfl (by omega) ?_
    refine o_iast (n := 126) (L := 96) rfl rfl rfl rfl rfl (by omega) (by omega) ?_
    refine o_aload_n (n := 127) rfl rfl rfl ?_
    refine of_8_10 (n := 130) hS rfl rfl ?_
    refine o_iload (n := 132) rfl rfl rfl ?_
    refine o_dup2 (n := 133) rfl rfl rfl rfl ?_
    refine o_iald (n := 134) (L := 16) rfl rfl rfl rfl rfl (by omega) (by omega) ?_
    rw [gset_k rfl, p7]
    refine o_iconst (n := 135) rfl rfl ?_
    refine o_iadd (n := 136) rfl rfl (by omega) ?_
    refine o_iast (n := 137) (L := 16) rfl rfl rfl rfl rfl (by omega) (by omega) ?_
    refine o_goto (t := 184) rfl rfl ?_
    refine o_iinc_3 (n := 187) rfl rfl rfl (by omega) ?_
    refine o_goto (t := 68) rfl rfl ?_
    refine ih (k + 1) _ _ (by omega) (by omega) ?_
    have := Pq_r (v := g 21 0 k - 97) P (by omega) (by omega) (by omega) (by rw [show A + 1 + (k - A - 1) = k by omega])
    rw [show k + 1 - A - 1 = k - A - 1 + 1 by omega]
    exact this
theorem l8_ru0 {f : Int} (hS : am_St r) (eR : g 8 0 8 = R) (R0 : 0 ≤ R) (R1 : R < 8) (m1 : 1 ≤ g 8 0 5) (m2 : g 8 0 5 ≤ 4) (T1 : g 8 0 7 ≤ 20) (hA : Aok g 21 (g 8 0 5) (g 8 0 7) A) : ∀ (m : Nat) (k : Int) (t : AV) (g1 : GI), (0 ≤ k) → (k + m = A) → (Pq g g1 R A k 0 (g 8 0 12)) → Ou 128 68 [vR 8 0, vI f, vI 0, vI k, t] [] g1 r (fun x g2 r2 => x = some (vI R) ∧ r2 = r ∧ ∃ g1, Pq g g1 R A A (g 8 0 7 - A - 1) (nsb g R A) ∧ g2 = gset (gset (gset g1 24 0 R 0) 8 0 7 0) 8 0 8 (R + 1)) := by
  intro m
  induction m with
  | zero =>
    intro k t g1 i0 i1 P
    obtain ⟨a1, a2, a3, a4, a5⟩ := id hA
    obtain ⟨p1, p2, p3, p4, p5, p6, p7, p8, p9⟩ := id P
    have e21 : g1 21 = g 21 := p1 21 (by decide) (by decide) (by decide)
    have e5 : g1 8 0 5 = g 8 0 5 := p2 5 (by decide)
    have e7 : g1 8 0 7 = g 8 0 7 := p2 7 (by decide)
    have e8 : g1 8 0 8 = R := (p2 8 (by decide)).trans eR
    have hk : k = A := by omega
    subst hk
    have hnl : ¬ (97 ≤ g 21 0 k ∧ g 21 0 k ≤ 96 + g 8 0 5) := by omega
    refine o_iload_n (n := 69) rfl rfl rfl ?_
    refine o_aload_n (n := 70) rfl rfl rfl ?_
    refine o_geti (n := 73) rfl rfl rfl rfl rfl ?_
    refine o_icmp_ge (n := 76) (t := 190) rfl rfl rfl (fun q73 => (by exfalso; omega)) (fun q73 => ?_)
    refine o_iconst (n := 77) rfl rfl ?_
    refine o_aload_n (n := 78) rfl rfl rfl ?_
    refine o_geti (n := 81) rfl rfl rfl rfl rfl ?_
    rw [e8]
    refine o_imul (n := 82) rfl rfl (by omega) ?_
    refine o_iload_n (n := 83) rfl rfl rfl ?_
    refine o_iadd (n := 84) rfl rfl (by omega) ?_
    refine o_istore_4 (n := 86) rfl rfl rfl ?_
    refine o_aload_n (n := 87) rfl rfl rfl ?_
    refine o_aload_n (n := 88) rfl rfl rfl ?_
    refine of_8_6 (n := 91) hS rfl rfl ?_
    refine o_iload_n (n := 92) rfl rfl rfl ?_
    refine o_iald (n := 93) (L := 20) rfl rfl rfl rfl rfl (by omega) (by omega) ?_
    rw [e21]
    have hcs := c8_isSign (g := g1) (r := r) (g 21 0 k) (by omega) (by omega)
    rw [e5] at hcs
    refine o_invi (n := 96) rfl rfl rfl rfl rfl rfl rfl rfl rfl rfl (hcs) ?_
    refine o_ifb_eq (n := 99) (t := 140) rfl rfl rfl (fun q96 => ?_) (fun q96 => (by exfalso; exact hnl q96))
    refine o_iconst (n := 141) rfl rfl ?_
    refine o_istore_2 (n := 142) rfl rfl rfl ?_
    refine o_aload_n (n := 143) rfl rfl rfl ?_
    refine o_aload_n (n := 144) rfl rfl rfl ?_
    refine of_8_6 (n := 147) hS rfl rfl ?_
    refine o_iload_n (n := 148) rfl rfl rfl ?_
    refine o_iald (n := 149) (L := 20) rfl rfl rfl rfl rfl (by omega) (by omega) ?_
    rw [e21]
    refine o_bipush (n := 151) rfl rfl ?_
    refine o_icmp_ne (n := 154) (t := 168) rfl rfl rfl (fun q151 => ?_) (fun q151 => ?_)
    · refine o_aload_n (n := 169) rfl rfl rfl ?_
      refine o_geti (n := 172) rfl rfl rfl rfl rfl ?_
      rw [p9]
      refine o_iconst (n := 173) rfl rfl ?_
      refine o_aload_n (n := 174) rfl rfl rfl ?_
      refine o_geti (n := 177) rfl rfl rfl rfl rfl ?_
      rw [e8]
      refine o_ishl (n := 178) rfl rfl ?_
      refine o_iconst (n := 179) rfl rfl ?_
      refine o_ixor (n := 180) rfl rfl ?_
      refine o_iand (n := 181) rfl rfl ?_
      refine o_puti (n := 184) rfl rfl rfl rfl rfl ?_
      refine o_iinc_3 (n := 187) rfl rfl rfl (by omega) ?_
      refine o_goto (t := 68) rfl rfl ?_
      refine l8_ru1 hS eR R0 R1 m1 m2 T1 hA (g 8 0 7 - (k + 1)).toNat (k + 1) _ _ (by omega) (by omega) ?_
      rw [show k + 1 - k - 1 = 0 by omega]
      first
        | (have e : nsb g R k = am_or (g 8 0 12) (am_shl 1 R) := cif_t (by omega)
           rw [e]; exact Pq_b P)
        | (have e : nsb g R k = am_and (g 8 0 12) (am_xor (am_shl 1 R) (-1)) := cif_f (by omega)
           rw [e]; exact Pq_b P)
    · refine o_aload_n (n := 155) rfl rfl rfl ?_
      refine o_geti (n := 158) rfl rfl rfl rfl rfl ?_
      rw [p9]
      refine o_iconst (n := 159) rfl rfl ?_
      refine o_aload_n (n := 160) rfl rfl rfl ?_
      refine o_geti (n := 163) rfl rfl rfl rfl rfl ?_
      rw [e8]
      refine o_ishl (n := 164) rfl rfl ?_
      refine o_ior (n := 165) rfl rfl ?_
      refine o_goto (t := 181) rfl rfl ?_
      refine o_puti (n := 184) rfl rfl rfl rfl rfl ?_
      refine o_iinc_3 (n := 187) rfl rfl rfl (by omega) ?_
      refine o_goto (t := 68) rfl rfl ?_
      refine l8_ru1 hS eR R0 R1 m1 m2 T1 hA (g 8 0 7 - (k + 1)).toNat (k + 1) _ _ (by omega) (by omega) ?_
      rw [show k + 1 - k - 1 = 0 by omega]
      first
        | (have e : nsb g R k = am_or (g 8 0 12) (am_shl 1 R) := cif_t (by omega)
           rw [e]; exact Pq_b P)
        | (have e : nsb g R k = am_and (g 8 0 12) (am_xor (am_shl 1 R) (-1)) := cif_f (by omega)
           rw [e]; exact Pq_b P)
  | succ m ih =>
    intro k t g1 i0 i1 P
    obtain ⟨a1, a2, a3, a4, a5⟩ := id hA
    obtain ⟨p1, p2, p3, p4, p5, p6, p7, p8, p9⟩ := id P
    have e21 : g1 21 = g 21 := p1 21 (by decide) (by decide) (by decide)
    have e5 : g1 8 0 5 = g 8 0 5 := p2 5 (by decide)
    have e7 : g1 8 0 7 = g 8 0 7 := p2 7 (by decide)
    have e8 : g1 8 0 8 = R := (p2 8 (by decide)).trans eR
    have hl := a3 k i0 (by omega)
    unfold ltr at hl
    refine o_iload_n (n := 69) rfl rfl rfl ?_
    refine o_aload_n (n := 70) rfl rfl rfl ?_
    refine o_geti (n := 73) rfl rfl rfl rfl rfl ?_
    refine o_icmp_ge (n := 76) (t := 190) rfl rfl rfl (fun q73 => (by exfalso; omega)) (fun q73 => ?_)
    refine o_iconst (n := 77) rfl rfl ?_
    refine o_aload_n (n := 78) rfl rfl rfl ?_
    refine o_geti (n := 81) rfl rfl rfl rfl rfl ?_
    rw [e8]
    refine o_imul (n := 82) rfl rfl (by omega) ?_
    refine o_iload_n (n := 83) rfl rfl rfl ?_
    refine o_iadd (n := 84) rfl rfl (by omega) ?_
    rw [Int.add_zero]
    refine o_istore_4 (n := 86) rfl rfl rfl ?_
    refine o_aload_n (n := 87) rfl rfl rfl ?_
    refine o_aload_n (n := 88) rfl rfl rfl ?_
    refine of_8_6 (n := 91) hS rfl rfl ?_
    refine o_iload_n (n := 92) rfl rfl rfl ?_
    refine o_iald (n := 93) (L := 20) rfl rfl rfl rfl rfl (by omega) (by omega) ?_
    rw [e21]
    have hcs := c8_isSign (g := g1) (r := r) (g 21 0 k) (by omega) (by omega)
    rw [e5] at hcs
    refine o_invi (n := 96) rfl rfl rfl rfl rfl rfl rfl rfl rfl rfl (hcs) ?_
    refine o_ifb_eq (n := 99) (t := 140) rfl rfl rfl (fun q96 => (by exfalso; exact q96 hl)) (fun q96 => ?_)
    refine o_aload_n (n := 100) rfl rfl rfl ?_
    refine of_8_9 (n := 103) hS rfl rfl ?_
    refine o_bipush (n := 105) rfl rfl ?_
    refine o_iload (n := 107) rfl rfl rfl ?_
    refine o_imul (n := 108) rfl rfl (by omega) ?_
    refine o_aload_n (n := 109) rfl rfl rfl ?_
    refine of_8_10 (n := 112) hS rfl rfl ?_
    refine o_iload (n := 114) rfl rfl rfl ?_
    refine o_iald (n := 115) (L := 16) rfl rfl rfl rfl rfl (by omega) (by omega) ?_
    rw [p6]
    refine o_iadd (n := 116) rfl rfl (by omega) ?_
    refine o_aload_n (n := 117) rfl rfl rfl ?_
    refine of_8_6 (n := 120) hS rfl rfl ?_
    refine o_iload_n (n := 121) rfl rfl rfl ?_
    refine o_iald (n := 122) (L := 20) rfl rfl rfl rfl rfl (by omega) (by omega) ?_
    rw [e21]
    refine o_bipush (n := 124) rfl rfl ?_
    refine o_isub (n := 125) rfl rfl (by omega) ?_
    refine o_iast (n := 126) (L := 96) rfl rfl rfl rfl rfl (by omega) (by omega) ?_
    refine o_aload_n (n := 127) rfl rfl rfl ?_
    refine of_8_10 (n := 130) hS rfl rfl ?_
    refine o_iload (n := 132) rfl rfl rfl ?_
    refine o_dup2 (n := 133) rfl rfl rfl rfl ?_
    refine o_iald (n := 134) (L := 16) rfl rfl rfl rfl rfl (by omega) (by omega) ?_
    rw [gset_k rfl, p6]
    refine o_iconst (n := 135) rfl rfl ?_
    refine o_iadd (n := 136) rfl rfl (by omega) ?_
    refine o_iast (n := 137) (L := 16) rfl rfl rfl rfl rfl (by omega) (by omega) ?_
    refine o_goto (t := 184) rfl rfl ?_
    refine o_iinc_3 (n := 187) rfl rfl rfl (by omega) ?_
    refine o_goto (t := 68) rfl rfl ?_
    exact ih (k + 1) _ _ (by omega) (by omega) (Pq_l P i0 (by omega) rfl)
theorem c8_rule (hI : Iv c g0 g r0) (hS : am_St r) : Ou 128 0 (am_ini 128 [vR 8 0]) [] g r (fun x g2 r1 => x = some (vI (ruA g)) ∧ r1 = r ∧ ((¬ ruok g ∧ g2 = g) ∨ (ruok g ∧ ∀ A, Aok g 21 (g 8 0 5) (g 8 0 7) A → ∃ g1, Pq g g1 (g 8 0 8) A A (g 8 0 7 - A - 1) (nsb g (g 8 0 8) A) ∧ g2 = gset (gset (gset g1 24 0 (g 8 0 8) 0) 8 0 7 0) 8 0 8 (g 8 0 8 + 1)))) := by
  show Ou 128 0 [vR 8 0, vN, vN, vN, vN] [] g r _
  obtain ⟨⟨hS0, hR, h6, hP⟩, hsg, htx, hru, hwd, hnw, hst, hsh, hla⟩ := id hI
  obtain ⟨sg1, sg2, sg3⟩ := hI.2.1
  obtain ⟨tx1, tx2, tx3, tx4⟩ := hI.2.2.1
  have ru0 : g0 7 0 10 = g 8 0 8 := hI.2.2.2.1.1.1
  have ru1 := hI.2.2.2.1.2.1.1
  have wd0 : g0 1 0 1 = g 8 0 14 := hI.2.2.2.2.1.1.1
  have wd1 := hI.2.2.2.2.1.2.1.1
  have wd2 := hI.2.2.2.2.1.2.2
  have nw0 : g0 0 0 0 = g 27 0 8 := hI.2.2.2.2.2.1.1.1
  have nw1 : g0 0 0 1 = g 28 0 8 := hI.2.2.2.2.2.1.1.2.1
  have nw2 := hI.2.2.2.2.2.1.2.1
  have nw3 := hI.2.2.2.2.2.1.2.2.1
  have st0 := hI.2.2.2.2.2.2.1.1
  have st1 := hI.2.2.2.2.2.2.1.2.1
  have st2 := hI.2.2.2.2.2.2.1.2.2.1
  have la0 : g0 7 0 13 = g 8 0 4 := hI.2.2.2.2.2.2.2.2
  refine o_aload_n (n := 1) rfl rfl rfl ?_
  refine o_geti (n := 4) rfl rfl rfl rfl rfl ?_
  refine o_if_le (n := 7) (t := 10) rfl rfl rfl (fun q4 => ?_) (fun q4 => ?_)
  · refine o_aload_n (n := 11) rfl rfl rfl ?_
    refine o_geti (n := 14) rfl rfl rfl rfl rfl ?_
    refine o_bipush (n := 16) rfl rfl ?_
    refine o_icmp_ne (n := 19) (t := 22) rfl rfl rfl (fun q16 => ?_) (fun q16 => ?_)
    · refine o_aload_n (n := 23) rfl rfl rfl ?_
      have hfa := c8_faultOfRule (g := g) (r := r) hS (by omega) (by omega) (by omega) (by omega)
      have hfa : Rt 125 [vR 8 0] g r (some (vI (frS g))) g r := hfa
      have hfr : frS g = -1 ∨ (0 ≤ frS g ∧ frS g ≤ 20) := by
        rcases fr_r (g := g) (K := 21) (s := g 8 0 5) (n := (g 8 0 7).toNat) (j := 0) (ld := 0) (q := 0) (by omega) with w | w
        · exact Or.inl w
        · refine Or.inr ⟨w.1, ?_⟩
          have : frS g ≤ 0 + ((g 8 0 7).toNat : Int) := w.2
          omega
      refine o_invi (n := 26) rfl rfl rfl rfl rfl rfl rfl rfl rfl rfl (hfa) ?_
      refine o_istore_1 (n := 27) rfl rfl rfl ?_
      refine o_iload_n (n := 28) rfl rfl rfl ?_
      refine o_iconst (n := 29) rfl rfl ?_
      refine o_icmp_eq (n := 32) (t := 38) rfl rfl rfl (fun q29 => ?_) (fun q29 => ?_)
      · refine o_iconst (n := 39) rfl rfl ?_
        refine o_istore_2 (n := 40) rfl rfl rfl ?_
        refine o_aload_n (n := 41) rfl rfl rfl ?_
        refine of_8_10 (n := 44) hS rfl rfl ?_
        refine o_iconst (n := 45) rfl rfl ?_
        refine o_aload_n (n := 46) rfl rfl rfl ?_
        refine o_geti (n := 49) rfl rfl rfl rfl rfl ?_
        refine o_imul (n := 50) rfl rfl (by omega) ?_
        refine o_iconst (n := 51) rfl rfl ?_
        refine o_iast (n := 52) (L := 16) rfl rfl rfl rfl rfl (by omega) (by omega) ?_
        refine o_aload_n (n := 53) rfl rfl rfl ?_
        refine of_8_10 (n := 56) hS rfl rfl ?_
        refine o_iconst (n := 57) rfl rfl ?_
        refine o_aload_n (n := 58) rfl rfl rfl ?_
        refine o_geti (n := 61) rfl rfl rfl rfl rfl ?_
        rw [gset_k rfl]
        refine o_imul (n := 62) rfl rfl (by omega) ?_
        refine o_iconst (n := 63) rfl rfl ?_
        refine o_iadd (n := 64) rfl rfl (by omega) ?_
        refine o_iconst (n := 65) rfl rfl ?_
        refine o_iast (n := 66) (L := 16) rfl rfl rfl rfl rfl (by omega) (by omega) ?_
        refine o_iconst (n := 67) rfl rfl ?_
        refine o_istore_3 (n := 68) rfl rfl rfl ?_
        have hf : frS g = -1 := by omega
        have ho : ruok g := ⟨by omega, by omega, hf⟩
        obtain ⟨A, hA⟩ := Aok_of (g := g) (K := 21) (s := g 8 0 5) (T := g 8 0 7) (by omega) hf
        obtain ⟨n9, v9, g9, r9, w1, w2, w3, w4⟩ := l8_ru0 (g := g) (r := r) (f := frS g) (R := g 8 0 8) (A := A) hS rfl (by omega) (by omega) (by omega) (by omega) (by omega) hA A.toNat 0 vN (gset (gset g 23 0 (2 * g 8 0 8) 0) 23 0 (2 * g 8 0 8 + 1) 0) (by omega) (by have := hA.1; omega) ⟨fun q _ _ z => by rw [gset_kf z, gset_kf z], fun s _ => by rw [gset_k rfl, gset_k rfl], fun s _ => by rw [gset_k rfl, gset_k rfl], fun s x y => by rw [gset_s y, gset_s x], fun s x y => by omega, by rw [gset_s (by omega), gset_at], gset_at, fun s x y => by omega, by rw [gset_k rfl, gset_k rfl]⟩
        refine ⟨n9, v9, g9, r9, w1, ?_, w3, Or.inr ⟨ho, fun A' hA' => ?_⟩⟩
        · rw [w2]; unfold ruA
          rw [cif_f (by omega), cif_f (by omega), cif_t hf]
        · have e : A' = A := by
            obtain ⟨x1, x2, x3, x4, x5⟩ := hA
            obtain ⟨y1, y2, y3, y4, y5⟩ := hA'
            by_cases q : A' < A
            · have := x3 A' (by omega) q; unfold ltr at this; omega
            · by_cases q2 : A < A'
              · have := y3 A (by omega) q2; unfold ltr at this; omega
              · omega
          rw [e]
          exact w4
      · refine o_sipush (n := 35) rfl rfl ?_
        refine o_iload_n (n := 36) rfl rfl rfl ?_
        refine o_isub (n := 37) rfl rfl (by omega) ?_
        refine o_iret rfl rfl ?_
        first
          | (exfalso; omega; done)
          | (have hn : ¬ ruok g := fun z => by have := z.1; have := z.2.1; have := z.2.2; omega
             refine ⟨?_, rfl, Or.inl ⟨hn, rfl⟩⟩
             unfold ruA
             first
               | rw [cif_t (by omega)]
               | rw [cif_f (by omega), cif_t (by omega)]
               | rw [cif_f (by omega), cif_f (by omega), cif_f (by omega)])
    · refine o_bipush (n := 21) rfl rfl ?_
      refine o_iret rfl rfl ?_
      first
        | (exfalso; omega; done)
        | (have hn : ¬ ruok g := fun z => by have := z.1; have := z.2.1; have := z.2.2; omega
           refine ⟨?_, rfl, Or.inl ⟨hn, rfl⟩⟩
           unfold ruA
           first
             | rw [cif_t (by omega)]
             | rw [cif_f (by omega), cif_t (by omega)]
             | rw [cif_f (by omega), cif_f (by omega), cif_f (by omega)])
  · refine o_bipush (n := 9) rfl rfl ?_
    refine o_iret rfl rfl ?_
    first
      | (exfalso; omega; done)
      | (have hn : ¬ ruok g := fun z => by have := z.1; have := z.2.1; have := z.2.2; omega
         refine ⟨?_, rfl, Or.inl ⟨hn, rfl⟩⟩
         unfold ruA
         first
           | rw [cif_t (by omega)]
           | rw [cif_f (by omega), cif_t (by omega)]
           | rw [cif_f (by omega), cif_f (by omega), cif_f (by omega)])
end RULE8
