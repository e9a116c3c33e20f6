/-! like answers of both: calls that only read, and enter. Written by wip/gen/gen28.py -/
theorem q8_id {m8 : Nat} {as : List AV} {c : Int} {g g0 r : GI} {v : Option AV} (k : Ou m8 0 (am_ini m8 as) [] g r (fun v' g2 r2 => v' = v ∧ Iv (c + 1) g2 g2 r2 ∧ g2 34 = g0 34 ∧ g2 35 = g0 35)) : Q8 m8 as c g0 v g r := by
  obtain ⟨v', g2, r2, h1, h2, h3, h4⟩ := rt_ex k
  subst h2
  exact ⟨g2, r2, h1, h3, h4⟩
section READS
variable {g h r : GI} {c : Int}
theorem nw_e (i : Inw g h) {s x y : Int} (a0 : 0 ≤ s) (a1 : s < 4) (b0 : 0 ≤ x) (b1 : x < 3) (c0 : 0 ≤ y) (c1 : y < 3) : g 9 0 (s * 9 + x * 3 + y) = h 26 0 (36 * 8 + 9 * s + 3 * x + y) := by
  rw [← E8_i (h := h) (d := 8) a0 a1 b0 b1 c0 c1, ← i.1.2.2 s x y a0 a1 b0 b1 c0 c1, show s * 9 + y + x * 3 = s * 9 + x * 3 + y by omega]
theorem st_e (i : Ist g h r) {k s x y : Int} (k0 : 0 ≤ k) (k1 : k < h 8 0 19) (a0 : 0 ≤ s) (a1 : s < 4) (b0 : 0 ≤ x) (b1 : x < 3) (c0 : 0 ≤ y) (c1 : y < 3) : g 9 (2 + r 15 0 k) (s * 9 + x * 3 + y) = h 26 0 (36 * k + 9 * s + 3 * x + y) := by
  rw [← E8_i (h := h) (d := k) a0 a1 b0 b1 c0 c1, ← (i.2.2.2 k k0 k1).2.1.2.2 s x y a0 a1 b0 b1 c0 c1, show s * 9 + y + x * 3 = s * 9 + x * 3 + y by omega]
theorem ru_s (i : Iru c g h r) {k s : Int} (k0 : 0 ≤ k) (k1 : k < h 8 0 8) (hs : s = 0 ∨ s = 1) : g 1 (1 + 2 * r 14 0 k + s) 1 = h 23 0 (2 * k + s) ∧ (0 ≤ h 23 0 (2 * k + s) ∧ h 23 0 (2 * k + s) ≤ 6) ∧ ∀ j, 0 ≤ j → j < h 23 0 (2 * k + s) → g 10 (1 + 2 * r 14 0 k + s) j = h 22 0 (6 * (2 * k + s) + j) := by
  have u := i.1.2 k k0 k1
  have b := i.2.1.2 k k0 k1
  rcases hs with hs | hs <;> subst hs
  · obtain ⟨u1, u2⟩ := u.1
    have b1 := b.1
    unfold Bw at b1
    unfold L8 at u1 u2 b1
    unfold W8 at u2
    rw [show 1 + 2 * r 14 0 k + 0 = 1 + 2 * r 14 0 k by omega]
    refine ⟨u1, ⟨b1.1.1.1, b1.2⟩, fun j j0 j1 => ?_⟩
    rw [u2 j j0 j1, show 12 * k + 6 * 0 + j = 6 * (2 * k + 0) + j by omega]
  · obtain ⟨u1, u2⟩ := u.2
    have b1 := b.2
    unfold Bw at b1
    unfold L8 at u1 u2 b1
    unfold W8 at u2
    rw [show 1 + 2 * r 14 0 k + 1 = 2 + 2 * r 14 0 k by omega]
    refine ⟨u1, ⟨b1.1.1.1, b1.2⟩, fun j j0 j1 => ?_⟩
    rw [u2 j j0 j1, show 12 * k + 6 * 1 + j = 6 * (2 * k + 1) + j by omega]
theorem Inw_set {a b d v : Int} (a0 : 0 ≤ a) (a1 : a < 4) (b0 : 0 ≤ b) (b1 : b < 3) (c0 : 0 ≤ d) (c1 : d < 3) (v0 : -1 ≤ v) (v1 : v ≤ 999) (i : Inw g h) : Inw (gset g 9 0 (a * 9 + b * 3 + d) v) (gset h 26 0 (288 + 9 * a + 3 * b + d) v) := by
  have key : ∀ s z y, 0 ≤ s → s < 4 → 0 ≤ z → z < 3 → 0 ≤ y → y < 3 → E8 (gset h 26 0 (288 + 9 * a + 3 * b + d) v) 8 s z y = cif (s = a ∧ z = b ∧ y = d) v (E8 h 8 s z y) := fun s z y p0 p1 q0 q1 s0 s1 => by
    rw [E8_i p0 p1 q0 q1 s0 s1, E8_i p0 p1 q0 q1 s0 s1]
    by_cases e : s = a ∧ z = b ∧ y = d
    · rw [cif_t e, e.1, e.2.1, e.2.2, show 36 * 8 + 9 * a + 3 * b + d = 288 + 9 * a + 3 * b + d by omega, gset_at]
    · rw [cif_f e, gset_s (by omega)]
  refine ⟨⟨i.1.1, i.1.2.1, fun s z y p0 p1 q0 q1 s0 s1 => ?_⟩, i.2.1, i.2.2.1, fun s z y p0 p1 q0 q1 s0 s1 => ?_⟩
  · rw [key s z y p0 p1 q0 q1 s0 s1]
    by_cases e : s = a ∧ z = b ∧ y = d
    · rw [cif_t e, e.1, e.2.1, e.2.2, show a * 9 + d + b * 3 = a * 9 + b * 3 + d by omega, gset_at]
    · rw [cif_f e, gset_s (by omega)]; exact i.1.2.2 s z y p0 p1 q0 q1 s0 s1
  · rw [key s z y p0 p1 q0 q1 s0 s1]
    by_cases e : s = a ∧ z = b ∧ y = d
    · rw [cif_t e]; exact ⟨v0, v1⟩
    · rw [cif_f e]; exact i.2.2.2 s z y p0 p1 q0 q1 s0 s1
end READS
theorem p_entry (a : Int) (b : Int) (d : Int) : Pr 56 152 [vI a, vI b, vI d] := by
  intro c g r hc0 hc1 hI
  have hI' := hI
  obtain ⟨⟨hS, hR, h6, hP⟩, hsg, htx, hru, hwd, hnw, hst, hsh, hla⟩ := hI'
  show Ou 56 0 [vR 7 0, vI a, vI b, vI d] [] g r _
  obtain ⟨sg1, sg2, sg3⟩ := hI.2.1
  obtain ⟨tx1, tx2, tx3, tx4⟩ := hI.2.2.1
  have ru0 : g 7 0 10 = g 8 0 8 := hI.2.2.2.1.1.1
  have ru1 := hI.2.2.2.1.2.1.1
  have wd0 : g 1 0 1 = g 8 0 14 := hI.2.2.2.2.1.1.1
  have wd1 := hI.2.2.2.2.1.2.1.1
  have wd2 := hI.2.2.2.2.1.2.2
  have nw0 : g 0 0 0 = g 27 0 8 := hI.2.2.2.2.2.1.1.1
  have nw1 : g 0 0 1 = g 28 0 8 := hI.2.2.2.2.2.1.1.2.1
  have nw2 := hI.2.2.2.2.2.1.2.1
  have nw3 := hI.2.2.2.2.2.1.2.2.1
  have st0 := hI.2.2.2.2.2.2.1.1
  have st1 := hI.2.2.2.2.2.2.1.2.1
  have st2 := hI.2.2.2.2.2.2.1.2.2.1
  have la0 : g 7 0 13 = g 8 0 4 := hI.2.2.2.2.2.2.2.2
  refine o_aload_n (n := 1) rfl rfl rfl ?_
  refine o_iload_n (n := 2) rfl rfl rfl ?_
  refine o_iload_n (n := 3) rfl rfl rfl ?_
  refine o_iload_n (n := 4) rfl rfl rfl ?_
  refine o_invi (n := 7) rfl rfl rfl rfl rfl rfl rfl rfl rfl rfl (c7_isPlace _ _ _) ?_
  refine o_ifb_ne (n := 10) (t := 13) rfl rfl rfl (fun q7 => ?_) (fun q7 => ?_)
  · refine o_aload_n (n := 14) rfl rfl rfl ?_
    refine of_7_5 (n := 17) hS rfl rfl ?_
    refine o_iload_n (n := 18) rfl rfl rfl ?_
    refine o_iload_n (n := 19) rfl rfl rfl ?_
    refine o_iload_n (n := 20) rfl rfl rfl ?_
    refine o_invi (n := 23) rfl rfl rfl rfl rfl rfl rfl rfl rfl (ok_0 (by omega) (by omega)) (c0_entryAt hS _ _ _ _ (by omega) (by omega) (by omega) (by omega) (by omega) (by omega) (by omega) (by omega)) ?_
    refine o_iret rfl rfl ?_
    refine q8_id ?_
    show Ou 152 0 [vR 8 0, vI a, vI b, vI d] [] g r _
    refine o_aload_n (n := 1) rfl rfl rfl ?_
    refine o_iload_n (n := 2) rfl rfl rfl ?_
    refine o_iload_n (n := 3) rfl rfl rfl ?_
    refine o_iload_n (n := 4) rfl rfl rfl ?_
    refine o_invi (n := 7) rfl rfl rfl rfl rfl rfl rfl rfl rfl rfl (c8_isEntry _ _ _ (by omega) (by omega)) ?_
    refine o_ifb_eq (n := 10) (t := 22) rfl rfl rfl (fun k7 => ?_) (fun k7 => ?_)
    · refine o_bipush (n := 24) rfl rfl ?_
      refine o_iret rfl rfl ?_
      first
        | (exfalso; omega; done)
        | (exact ⟨rfl, Iv_up hI, rfl, rfl⟩)
        | (refine ⟨?_, Iv_up hI, rfl, rfl⟩
           rw [nw_e hnw (by omega) (by omega) (by omega) (by omega) (by omega) (by omega)])
        | (refine ⟨congrArg (fun z => some (vI z)) ?_, Iv_up hI, rfl, rfl⟩
           omega)
    · refine o_aload_n (n := 11) rfl rfl rfl ?_
      refine o_bipush (n := 13) rfl rfl ?_
      refine o_iload_n (n := 14) rfl rfl rfl ?_
      refine o_iload_n (n := 15) rfl rfl rfl ?_
      refine o_iload_n (n := 16) rfl rfl rfl ?_
      refine o_invi (n := 19) rfl rfl rfl rfl rfl rfl rfl rfl rfl rfl (c8_entryBy hS _ _ _ _ (by omega) (by omega) (by omega) (by omega) (by omega) (by omega) (by omega) (by omega)) ?_
      refine o_goto (t := 24) rfl rfl ?_
      refine o_iret rfl rfl ?_
      first
        | (exfalso; omega; done)
        | (exact ⟨rfl, Iv_up hI, rfl, rfl⟩)
        | (refine ⟨?_, Iv_up hI, rfl, rfl⟩
           rw [nw_e hnw (by omega) (by omega) (by omega) (by omega) (by omega) (by omega)])
        | (refine ⟨congrArg (fun z => some (vI z)) ?_, Iv_up hI, rfl, rfl⟩
           omega)
  · refine o_bipush (n := 12) rfl rfl ?_
    refine o_iret rfl rfl ?_
    refine q8_id ?_
    show Ou 152 0 [vR 8 0, vI a, vI b, vI d] [] g r _
    refine o_aload_n (n := 1) rfl rfl rfl ?_
    refine o_iload_n (n := 2) rfl rfl rfl ?_
    refine o_iload_n (n := 3) rfl rfl rfl ?_
    refine o_iload_n (n := 4) rfl rfl rfl ?_
    refine o_invi (n := 7) rfl rfl rfl rfl rfl rfl rfl rfl rfl rfl (c8_isEntry _ _ _ (by omega) (by omega)) ?_
    refine o_ifb_eq (n := 10) (t := 22) rfl rfl rfl (fun k7 => ?_) (fun k7 => ?_)
    · refine o_bipush (n := 24) rfl rfl ?_
      refine o_iret rfl rfl ?_
      first
        | (exfalso; omega; done)
        | (exact ⟨rfl, Iv_up hI, rfl, rfl⟩)
        | (refine ⟨?_, Iv_up hI, rfl, rfl⟩
           rw [nw_e hnw (by omega) (by omega) (by omega) (by omega) (by omega) (by omega)])
        | (refine ⟨congrArg (fun z => some (vI z)) ?_, Iv_up hI, rfl, rfl⟩
           omega)
    · refine o_aload_n (n := 11) rfl rfl rfl ?_
      refine o_bipush (n := 13) rfl rfl ?_
      refine o_iload_n (n := 14) rfl rfl rfl ?_
      refine o_iload_n (n := 15) rfl rfl rfl ?_
      refine o_iload_n (n := 16) rfl rfl rfl ?_
      refine o_invi (n := 19) rfl rfl rfl rfl rfl rfl rfl rfl rfl rfl (c8_entryBy hS _ _ _ _ (by omega) (by omega) (by omega) (by omega) (by omega) (by omega) (by omega) (by omega)) ?_
      refine o_goto (t := 24) rfl rfl ?_
      refine o_iret rfl rfl ?_
      first
        | (exfalso; omega; done)
        | (exact ⟨rfl, Iv_up hI, rfl, rfl⟩)
        | (refine ⟨?_, Iv_up hI, rfl, rfl⟩
           rw [nw_e hnw (by omega) (by omega) (by omega) (by omega) (by omega) (by omega)])
        | (refine ⟨congrArg (fun z => some (vI z)) ?_, Iv_up hI, rfl, rfl⟩
           omega)
theorem p_kept (k : Int) (a : Int) (b : Int) (d : Int) : Pr 63 165 [vI k, vI a, vI b, vI d] := by
  intro c g r hc0 hc1 hI
  have hI' := hI
  obtain ⟨⟨hS, hR, h6, hP⟩, hsg, htx, hru, hwd, hnw, hst, hsh, hla⟩ := hI'
  show Ou 63 0 [vR 7 0, vI k, vI a, vI b, vI d] [] g r _
  obtain ⟨sg1, sg2, sg3⟩ := hI.2.1
  obtain ⟨tx1, tx2, tx3, tx4⟩ := hI.2.2.1
  have ru0 : g 7 0 10 = g 8 0 8 := hI.2.2.2.1.1.1
  have ru1 := hI.2.2.2.1.2.1.1
  have wd0 : g 1 0 1 = g 8 0 14 := hI.2.2.2.2.1.1.1
  have wd1 := hI.2.2.2.2.1.2.1.1
  have wd2 := hI.2.2.2.2.1.2.2
  have nw0 : g 0 0 0 = g 27 0 8 := hI.2.2.2.2.2.1.1.1
  have nw1 : g 0 0 1 = g 28 0 8 := hI.2.2.2.2.2.1.1.2.1
  have nw2 := hI.2.2.2.2.2.1.2.1
  have nw3 := hI.2.2.2.2.2.1.2.2.1
  have st0 := hI.2.2.2.2.2.2.1.1
  have st1 := hI.2.2.2.2.2.2.1.2.1
  have st2 := hI.2.2.2.2.2.2.1.2.2.1
  have la0 : g 7 0 13 = g 8 0 4 := hI.2.2.2.2.2.2.2.2
  refine o_aload_n (n := 1) rfl rfl rfl ?_
  refine o_iload_n (n := 2) rfl rfl rfl ?_
  refine o_invi (n := 5) rfl rfl rfl rfl rfl rfl rfl rfl rfl rfl (c7_isStage _) ?_
  refine o_ifb_eq (n := 8) (t := 19) rfl rfl rfl (fun q5 => ?_) (fun q5 => ?_)
  · refine o_bipush (n := 21) rfl rfl ?_
    refine o_iret rfl rfl ?_
    refine q8_id ?_
    show Ou 165 0 [vR 8 0, vI k, vI a, vI b, vI d] [] g r _
    refine o_aload_n (n := 1) rfl rfl rfl ?_
    refine o_iload_n (n := 2) rfl rfl rfl ?_
    refine o_invi (n := 5) rfl rfl rfl rfl rfl rfl rfl rfl rfl rfl (c8_isStage _ (by omega) (by omega)) ?_
    refine o_ifb_eq (n := 8) (t := 31) rfl rfl rfl (fun k5 => ?_) (fun k5 => ?_)
    · refine o_bipush (n := 33) rfl rfl ?_
      refine o_iret rfl rfl ?_
      first
        | (exfalso; omega; done)
        | (exact ⟨rfl, Iv_up hI, rfl, rfl⟩)
        | (refine ⟨?_, Iv_up hI, rfl, rfl⟩
           rw [st_e hst (by omega) (by omega) (by omega) (by omega) (by omega) (by omega) (by omega) (by omega)])
        | (refine ⟨congrArg (fun z => some (vI z)) ?_, Iv_up hI, rfl, rfl⟩
           omega)
    · refine o_aload_n (n := 9) rfl rfl rfl ?_
      refine o_iload_n (n := 10) rfl rfl rfl ?_
      refine o_iload_n (n := 11) rfl rfl rfl ?_
      refine o_iload (n := 13) rfl rfl rfl ?_
      refine o_invi (n := 16) rfl rfl rfl rfl rfl rfl rfl rfl rfl rfl (c8_isEntry _ _ _ (by omega) (by omega)) ?_
      refine o_ifb_eq (n := 19) (t := 31) rfl rfl rfl (fun k16 => ?_) (fun k16 => ?_)
      · refine o_bipush (n := 33) rfl rfl ?_
        refine o_iret rfl rfl ?_
        first
          | (exfalso; omega; done)
          | (exact ⟨rfl, Iv_up hI, rfl, rfl⟩)
          | (refine ⟨?_, Iv_up hI, rfl, rfl⟩
             rw [st_e hst (by omega) (by omega) (by omega) (by omega) (by omega) (by omega) (by omega) (by omega)])
          | (refine ⟨congrArg (fun z => some (vI z)) ?_, Iv_up hI, rfl, rfl⟩
             omega)
      · refine o_aload_n (n := 20) rfl rfl rfl ?_
        refine o_iload_n (n := 21) rfl rfl rfl ?_
        refine o_iload_n (n := 22) rfl rfl rfl ?_
        refine o_iload_n (n := 23) rfl rfl rfl ?_
        refine o_iload (n := 25) rfl rfl rfl ?_
        refine o_invi (n := 28) rfl rfl rfl rfl rfl rfl rfl rfl rfl rfl (c8_entryBy hS _ _ _ _ (by omega) (by omega) (by omega) (by omega) (by omega) (by omega) (by omega) (by omega)) ?_
        refine o_goto (t := 33) rfl rfl ?_
        refine o_iret rfl rfl ?_
        first
          | (exfalso; omega; done)
          | (exact ⟨rfl, Iv_up hI, rfl, rfl⟩)
          | (refine ⟨?_, Iv_up hI, rfl, rfl⟩
             rw [st_e hst (by omega) (by omega) (by omega) (by omega) (by omega) (by omega) (by omega) (by omega)])
          | (refine ⟨congrArg (fun z => some (vI z)) ?_, Iv_up hI, rfl, rfl⟩
             omega)
  · refine o_aload_n (n := 9) rfl rfl rfl ?_
    refine o_iload_n (n := 10) rfl rfl rfl ?_
    refine o_iload_n (n := 11) rfl rfl rfl ?_
    refine o_iload (n := 13) rfl rfl rfl ?_
    refine o_invi (n := 16) rfl rfl rfl rfl rfl rfl rfl rfl rfl rfl (c7_isPlace _ _ _) ?_
    refine o_ifb_ne (n := 19) (t := 22) rfl rfl rfl (fun q16 => ?_) (fun q16 => ?_)
    · refine o_aload_n (n := 23) rfl rfl rfl ?_
      refine of_7_3 (n := 26) hS rfl rfl ?_
      refine o_iload_n (n := 27) rfl rfl rfl ?_
      refine o_ra15 (n := 28) hR rfl rfl (by omega) (by omega) (fun hA27 hB27 => ?_)
      refine of_4_0 (n := 31) hS rfl rfl (by omega) (by omega) ?_
      refine o_iload_n (n := 32) rfl rfl rfl ?_
      refine o_iload_n (n := 33) rfl rfl rfl ?_
      refine o_iload (n := 35) rfl rfl rfl ?_
      refine o_invi (n := 38) rfl rfl rfl rfl rfl rfl rfl rfl rfl (ok_0 (by omega) (by omega)) (c0_entryAt hS _ _ _ _ (by omega) (by omega) (by omega) (by omega) (by omega) (by omega) (by omega) (by omega)) ?_
      refine o_iret rfl rfl ?_
      refine q8_id ?_
      show Ou 165 0 [vR 8 0, vI k, vI a, vI b, vI d] [] g r _
      refine o_aload_n (n := 1) rfl rfl rfl ?_
      refine o_iload_n (n := 2) rfl rfl rfl ?_
      refine o_invi (n := 5) rfl rfl rfl rfl rfl rfl rfl rfl rfl rfl (c8_isStage _ (by omega) (by omega)) ?_
      refine o_ifb_eq (n := 8) (t := 31) rfl rfl rfl (fun k5 => ?_) (fun k5 => ?_)
      · refine o_bipush (n := 33) rfl rfl ?_
        refine o_iret rfl rfl ?_
        first
          | (exfalso; omega; done)
          | (exact ⟨rfl, Iv_up hI, rfl, rfl⟩)
          | (refine ⟨?_, Iv_up hI, rfl, rfl⟩
             rw [st_e hst (by omega) (by omega) (by omega) (by omega) (by omega) (by omega) (by omega) (by omega)])
          | (refine ⟨congrArg (fun z => some (vI z)) ?_, Iv_up hI, rfl, rfl⟩
             omega)
      · refine o_aload_n (n := 9) rfl rfl rfl ?_
        refine o_iload_n (n := 10) rfl rfl rfl ?_
        refine o_iload_n (n := 11) rfl rfl rfl ?_
        refine o_iload (n := 13) rfl rfl rfl ?_
        refine o_invi (n := 16) rfl rfl rfl rfl rfl rfl rfl rfl rfl rfl (c8_isEntry _ _ _ (by omega) (by omega)) ?_
        refine o_ifb_eq (n := 19) (t := 31) rfl rfl rfl (fun k16 => ?_) (fun k16 => ?_)
        · refine o_bipush (n := 33) rfl rfl ?_
          refine o_iret rfl rfl ?_
          first
            | (exfalso; omega; done)
            | (exact ⟨rfl, Iv_up hI, rfl, rfl⟩)
            | (refine ⟨?_, Iv_up hI, rfl, rfl⟩
               rw [st_e hst (by omega) (by omega) (by omega) (by omega) (by omega) (by omega) (by omega) (by omega)])
            | (refine ⟨congrArg (fun z => some (vI z)) ?_, Iv_up hI, rfl, rfl⟩
               omega)
        · refine o_aload_n (n := 20) rfl rfl rfl ?_
          refine o_iload_n (n := 21) rfl rfl rfl ?_
          refine o_iload_n (n := 22) rfl rfl rfl ?_
          refine o_iload_n (n := 23) rfl rfl rfl ?_
          refine o_iload (n := 25) rfl rfl rfl ?_
          refine o_invi (n := 28) rfl rfl rfl rfl rfl rfl rfl rfl rfl rfl (c8_entryBy hS _ _ _ _ (by omega) (by omega) (by omega) (by omega) (by omega) (by omega) (by omega) (by omega)) ?_
          refine o_goto (t := 33) rfl rfl ?_
          refine o_iret rfl rfl ?_
          first
            | (exfalso; omega; done)
            | (exact ⟨rfl, Iv_up hI, rfl, rfl⟩)
            | (refine ⟨?_, Iv_up hI, rfl, rfl⟩
               rw [st_e hst (by omega) (by omega) (by omega) (by omega) (by omega) (by omega) (by omega) (by omega)])
            | (refine ⟨congrArg (fun z => some (vI z)) ?_, Iv_up hI, rfl, rfl⟩
               omega)
    · refine o_bipush (n := 21) rfl rfl ?_
      refine o_iret rfl rfl ?_
      refine q8_id ?_
      show Ou 165 0 [vR 8 0, vI k, vI a, vI b, vI d] [] g r _
      refine o_aload_n (n := 1) rfl rfl rfl ?_
      refine o_iload_n (n := 2) rfl rfl rfl ?_
      refine o_invi (n := 5) rfl rfl rfl rfl rfl rfl rfl rfl rfl rfl (c8_isStage _ (by omega) (by omega)) ?_
      refine o_ifb_eq (n := 8) (t := 31) rfl rfl rfl (fun k5 => ?_) (fun k5 => ?_)
      · refine o_bipush (n := 33) rfl rfl ?_
        refine o_iret rfl rfl ?_
        first
          | (exfalso; omega; done)
          | (exact ⟨rfl, Iv_up hI, rfl, rfl⟩)
          | (refine ⟨?_, Iv_up hI, rfl, rfl⟩
             rw [st_e hst (by omega) (by omega) (by omega) (by omega) (by omega) (by omega) (by omega) (by omega)])
          | (refine ⟨congrArg (fun z => some (vI z)) ?_, Iv_up hI, rfl, rfl⟩
             omega)
      · refine o_aload_n (n := 9) rfl rfl rfl ?_
        refine o_iload_n (n := 10) rfl rfl rfl ?_
        refine o_iload_n (n := 11) rfl rfl rfl ?_
        refine o_iload (n := 13) rfl rfl rfl ?_
        refine o_invi (n := 16) rfl rfl rfl rfl rfl rfl rfl rfl rfl rfl (c8_isEntry _ _ _ (by omega) (by omega)) ?_
        refine o_ifb_eq (n := 19) (t := 31) rfl rfl rfl (fun k16 => ?_) (fun k16 => ?_)
        · refine o_bipush (n := 33) rfl rfl ?_
          refine o_iret rfl rfl ?_
          first
            | (exfalso; omega; done)
            | (exact ⟨rfl, Iv_up hI, rfl, rfl⟩)
            | (refine ⟨?_, Iv_up hI, rfl, rfl⟩
               rw [st_e hst (by omega) (by omega) (by omega) (by omega) (by omega) (by omega) (by omega) (by omega)])
            | (refine ⟨congrArg (fun z => some (vI z)) ?_, Iv_up hI, rfl, rfl⟩
               omega)
        · refine o_aload_n (n := 20) rfl rfl rfl ?_
          refine o_iload_n (n := 21) rfl rfl rfl ?_
          refine o_iload_n (n := 22) rfl rfl rfl ?_
          refine o_iload_n (n := 23) rfl rfl rfl ?_
          refine o_iload (n := 25) rfl rfl rfl ?_
          refine o_invi (n := 28) rfl rfl rfl rfl rfl rfl rfl rfl rfl rfl (c8_entryBy hS _ _ _ _ (by omega) (by omega) (by omega) (by omega) (by omega) (by omega) (by omega) (by omega)) ?_
          refine o_goto (t := 33) rfl rfl ?_
          refine o_iret rfl rfl ?_
          first
            | (exfalso; omega; done)
            | (exact ⟨rfl, Iv_up hI, rfl, rfl⟩)
            | (refine ⟨?_, Iv_up hI, rfl, rfl⟩
               rw [st_e hst (by omega) (by omega) (by omega) (by omega) (by omega) (by omega) (by omega) (by omega)])
            | (refine ⟨congrArg (fun z => some (vI z)) ?_, Iv_up hI, rfl, rfl⟩
               omega)
theorem p_side (i : Int) (s : Int) (k : Int) : Pr 51 132 [vI i, vI s, vI k] := by
  intro c g r hc0 hc1 hI
  have hI' := hI
  obtain ⟨⟨hS, hR, h6, hP⟩, hsg, htx, hru, hwd, hnw, hst, hsh, hla⟩ := hI'
  show Ou 51 0 [vR 7 0, vI i, vI s, vI k] [] g r _
  obtain ⟨sg1, sg2, sg3⟩ := hI.2.1
  obtain ⟨tx1, tx2, tx3, tx4⟩ := hI.2.2.1
  have ru0 : g 7 0 10 = g 8 0 8 := hI.2.2.2.1.1.1
  have ru1 := hI.2.2.2.1.2.1.1
  have wd0 : g 1 0 1 = g 8 0 14 := hI.2.2.2.2.1.1.1
  have wd1 := hI.2.2.2.2.1.2.1.1
  have wd2 := hI.2.2.2.2.1.2.2
  have nw0 : g 0 0 0 = g 27 0 8 := hI.2.2.2.2.2.1.1.1
  have nw1 : g 0 0 1 = g 28 0 8 := hI.2.2.2.2.2.1.1.2.1
  have nw2 := hI.2.2.2.2.2.1.2.1
  have nw3 := hI.2.2.2.2.2.1.2.2.1
  have st0 := hI.2.2.2.2.2.2.1.1
  have st1 := hI.2.2.2.2.2.2.1.2.1
  have st2 := hI.2.2.2.2.2.2.1.2.2.1
  have la0 : g 7 0 13 = g 8 0 4 := hI.2.2.2.2.2.2.2.2
  refine o_aload_n (n := 1) rfl rfl rfl ?_
  refine o_iload_n (n := 2) rfl rfl rfl ?_
  refine o_invi (n := 5) rfl rfl rfl rfl rfl rfl rfl rfl rfl rfl (c7_isRule _) ?_
  refine o_ifb_eq (n := 8) (t := 26) rfl rfl rfl (fun q5 => ?_) (fun q5 => ?_)
  · refine o_bipush (n := 28) rfl rfl ?_
    refine o_iret rfl rfl ?_
    refine q8_id ?_
    show Ou 132 0 [vR 8 0, vI i, vI s, vI k] [] g r _
    refine o_aload_n (n := 1) rfl rfl rfl ?_
    refine o_iload_n (n := 2) rfl rfl rfl ?_
    refine o_invi (n := 5) rfl rfl rfl rfl rfl rfl rfl rfl rfl rfl (c8_isRule _ (by omega) (by omega)) ?_
    refine o_ifb_eq (n := 8) (t := 39) rfl rfl rfl (fun k5 => ?_) (fun k5 => ?_)
    · refine o_bipush (n := 41) rfl rfl ?_
      refine o_iret rfl rfl ?_
      first
        | (exfalso; omega; done)
        | (exact ⟨rfl, Iv_up hI, rfl, rfl⟩)
        | (refine ⟨?_, Iv_up hI, rfl, rfl⟩
           by_cases z1 : k = -1
           · rw [cif_t (show k < 0 by omega), cif_t z1, hsd.1]
           · rw [cif_f (show ¬ k < 0 by omega), cif_f z1]
             by_cases z2 : k < g 23 0 (2 * i + s)
             · rw [cif_t z2, cif_t (by omega), hsd.2.2 k (by omega) z2]
             · rw [cif_f z2, cif_f (by omega)])
        | (refine ⟨congrArg (fun z => some (vI z)) ?_, Iv_up hI, rfl, rfl⟩
           omega)
    · refine o_iload_n (n := 9) rfl rfl rfl ?_
      refine o_invsi (n := 12) rfl rfl rfl rfl rfl rfl (c8_isTwo _) ?_
      refine o_ifb_eq (n := 15) (t := 39) rfl rfl rfl (fun k12 => ?_) (fun k12 => ?_)
      · refine o_bipush (n := 41) rfl rfl ?_
        refine o_iret rfl rfl ?_
        first
          | (exfalso; omega; done)
          | (exact ⟨rfl, Iv_up hI, rfl, rfl⟩)
          | (refine ⟨?_, Iv_up hI, rfl, rfl⟩
             by_cases z1 : k = -1
             · rw [cif_t (show k < 0 by omega), cif_t z1, hsd.1]
             · rw [cif_f (show ¬ k < 0 by omega), cif_f z1]
               by_cases z2 : k < g 23 0 (2 * i + s)
               · rw [cif_t z2, cif_t (by omega), hsd.2.2 k (by omega) z2]
               · rw [cif_f z2, cif_f (by omega)])
          | (refine ⟨congrArg (fun z => some (vI z)) ?_, Iv_up hI, rfl, rfl⟩
             omega)
      · refine o_iload_n (n := 16) rfl rfl rfl ?_
        refine o_i2l (n := 17) rfl rfl ?_
        refine o_ldc2_w (n := 20) rfl rfl ?_
        refine o_ldc2_w (n := 23) rfl rfl ?_
        refine o_invsi (n := 26) rfl rfl rfl rfl rfl rfl (c8_in _ _ _) ?_
        refine o_ifb_eq (n := 29) (t := 39) rfl rfl rfl (fun k26 => ?_) (fun k26 => ?_)
        · refine o_bipush (n := 41) rfl rfl ?_
          refine o_iret rfl rfl ?_
          first
            | (exfalso; omega; done)
            | (exact ⟨rfl, Iv_up hI, rfl, rfl⟩)
            | (refine ⟨?_, Iv_up hI, rfl, rfl⟩
               by_cases z1 : k = -1
               · rw [cif_t (show k < 0 by omega), cif_t z1, hsd.1]
               · rw [cif_f (show ¬ k < 0 by omega), cif_f z1]
                 by_cases z2 : k < g 23 0 (2 * i + s)
                 · rw [cif_t z2, cif_t (by omega), hsd.2.2 k (by omega) z2]
                 · rw [cif_f z2, cif_f (by omega)])
            | (refine ⟨congrArg (fun z => some (vI z)) ?_, Iv_up hI, rfl, rfl⟩
               omega)
        · refine o_aload_n (n := 30) rfl rfl rfl ?_
          refine o_iload_n (n := 31) rfl rfl rfl ?_
          refine o_iload_n (n := 32) rfl rfl rfl ?_
          refine o_iload_n (n := 33) rfl rfl rfl ?_
          refine o_invi (n := 36) rfl rfl rfl rfl rfl rfl rfl rfl rfl rfl (c8_sideBy hS _ _ _ (by omega) (by omega) (by omega) (by omega) (by omega) (by omega) (by omega)) ?_
          refine o_goto (t := 41) rfl rfl ?_
          refine o_iret rfl rfl ?_
          first
            | (exfalso; omega; done)
            | (exact ⟨rfl, Iv_up hI, rfl, rfl⟩)
            | (refine ⟨?_, Iv_up hI, rfl, rfl⟩
               by_cases z1 : k = -1
               · rw [cif_t (show k < 0 by omega), cif_t z1, hsd.1]
               · rw [cif_f (show ¬ k < 0 by omega), cif_f z1]
                 by_cases z2 : k < g 23 0 (2 * i + s)
                 · rw [cif_t z2, cif_t (by omega), hsd.2.2 k (by omega) z2]
                 · rw [cif_f z2, cif_f (by omega)])
            | (refine ⟨congrArg (fun z => some (vI z)) ?_, Iv_up hI, rfl, rfl⟩
               omega)
  · refine o_iload_n (n := 9) rfl rfl rfl ?_
    refine o_invsi (n := 12) rfl rfl rfl rfl rfl rfl (c7_isSide _) ?_
    refine o_ifb_eq (n := 15) (t := 26) rfl rfl rfl (fun q12 => ?_) (fun q12 => ?_)
    · refine o_bipush (n := 28) rfl rfl ?_
      refine o_iret rfl rfl ?_
      refine q8_id ?_
      show Ou 132 0 [vR 8 0, vI i, vI s, vI k] [] g r _
      refine o_aload_n (n := 1) rfl rfl rfl ?_
      refine o_iload_n (n := 2) rfl rfl rfl ?_
      refine o_invi (n := 5) rfl rfl rfl rfl rfl rfl rfl rfl rfl rfl (c8_isRule _ (by omega) (by omega)) ?_
      refine o_ifb_eq (n := 8) (t := 39) rfl rfl rfl (fun k5 => ?_) (fun k5 => ?_)
      · refine o_bipush (n := 41) rfl rfl ?_
        refine o_iret rfl rfl ?_
        first
          | (exfalso; omega; done)
          | (exact ⟨rfl, Iv_up hI, rfl, rfl⟩)
          | (refine ⟨?_, Iv_up hI, rfl, rfl⟩
             by_cases z1 : k = -1
             · rw [cif_t (show k < 0 by omega), cif_t z1, hsd.1]
             · rw [cif_f (show ¬ k < 0 by omega), cif_f z1]
               by_cases z2 : k < g 23 0 (2 * i + s)
               · rw [cif_t z2, cif_t (by omega), hsd.2.2 k (by omega) z2]
               · rw [cif_f z2, cif_f (by omega)])
          | (refine ⟨congrArg (fun z => some (vI z)) ?_, Iv_up hI, rfl, rfl⟩
             omega)
      · refine o_iload_n (n := 9) rfl rfl rfl ?_
        refine o_invsi (n := 12) rfl rfl rfl rfl rfl rfl (c8_isTwo _) ?_
        refine o_ifb_eq (n := 15) (t := 39) rfl rfl rfl (fun k12 => ?_) (fun k12 => ?_)
        · refine o_bipush (n := 41) rfl rfl ?_
          refine o_iret rfl rfl ?_
          first
            | (exfalso; omega; done)
            | (exact ⟨rfl, Iv_up hI, rfl, rfl⟩)
            | (refine ⟨?_, Iv_up hI, rfl, rfl⟩
               by_cases z1 : k = -1
               · rw [cif_t (show k < 0 by omega), cif_t z1, hsd.1]
               · rw [cif_f (show ¬ k < 0 by omega), cif_f z1]
                 by_cases z2 : k < g 23 0 (2 * i + s)
                 · rw [cif_t z2, cif_t (by omega), hsd.2.2 k (by omega) z2]
                 · rw [cif_f z2, cif_f (by omega)])
            | (refine ⟨congrArg (fun z => some (vI z)) ?_, Iv_up hI, rfl, rfl⟩
               omega)
        · refine o_iload_n (n := 16) rfl rfl rfl ?_
          refine o_i2l (n := 17) rfl rfl ?_
          refine o_ldc2_w (n := 20) rfl rfl ?_
          refine o_ldc2_w (n := 23) rfl rfl ?_
          refine o_invsi (n := 26) rfl rfl rfl rfl rfl rfl (c8_in _ _ _) ?_
          refine o_ifb_eq (n := 29) (t := 39) rfl rfl rfl (fun k26 => ?_) (fun k26 => ?_)
          · refine o_bipush (n := 41) rfl rfl ?_
            refine o_iret rfl rfl ?_
            first
              | (exfalso; omega; done)
              | (exact ⟨rfl, Iv_up hI, rfl, rfl⟩)
              | (refine ⟨?_, Iv_up hI, rfl, rfl⟩
                 by_cases z1 : k = -1
                 · rw [cif_t (show k < 0 by omega), cif_t z1, hsd.1]
                 · rw [cif_f (show ¬ k < 0 by omega), cif_f z1]
                   by_cases z2 : k < g 23 0 (2 * i + s)
                   · rw [cif_t z2, cif_t (by omega), hsd.2.2 k (by omega) z2]
                   · rw [cif_f z2, cif_f (by omega)])
              | (refine ⟨congrArg (fun z => some (vI z)) ?_, Iv_up hI, rfl, rfl⟩
                 omega)
          · refine o_aload_n (n := 30) rfl rfl rfl ?_
            refine o_iload_n (n := 31) rfl rfl rfl ?_
            refine o_iload_n (n := 32) rfl rfl rfl ?_
            refine o_iload_n (n := 33) rfl rfl rfl ?_
            refine o_invi (n := 36) rfl rfl rfl rfl rfl rfl rfl rfl rfl rfl (c8_sideBy hS _ _ _ (by omega) (by omega) (by omega) (by omega) (by omega) (by omega) (by omega)) ?_
            refine o_goto (t := 41) rfl rfl ?_
            refine o_iret rfl rfl ?_
            first
              | (exfalso; omega; done)
              | (exact ⟨rfl, Iv_up hI, rfl, rfl⟩)
              | (refine ⟨?_, Iv_up hI, rfl, rfl⟩
                 by_cases z1 : k = -1
                 · rw [cif_t (show k < 0 by omega), cif_t z1, hsd.1]
                 · rw [cif_f (show ¬ k < 0 by omega), cif_f z1]
                   by_cases z2 : k < g 23 0 (2 * i + s)
                   · rw [cif_t z2, cif_t (by omega), hsd.2.2 k (by omega) z2]
                   · rw [cif_f z2, cif_f (by omega)])
              | (refine ⟨congrArg (fun z => some (vI z)) ?_, Iv_up hI, rfl, rfl⟩
                 omega)
    · refine o_iload_n (n := 16) rfl rfl rfl ?_
      refine o_iconst (n := 17) rfl rfl ?_
      refine o_icmp_lt (n := 20) (t := 26) rfl rfl rfl (fun q17 => ?_) (fun q17 => ?_)
      · refine o_bipush (n := 28) rfl rfl ?_
        refine o_iret rfl rfl ?_
        refine q8_id ?_
        show Ou 132 0 [vR 8 0, vI i, vI s, vI k] [] g r _
        refine o_aload_n (n := 1) rfl rfl rfl ?_
        refine o_iload_n (n := 2) rfl rfl rfl ?_
        refine o_invi (n := 5) rfl rfl rfl rfl rfl rfl rfl rfl rfl rfl (c8_isRule _ (by omega) (by omega)) ?_
        refine o_ifb_eq (n := 8) (t := 39) rfl rfl rfl (fun k5 => ?_) (fun k5 => ?_)
        · refine o_bipush (n := 41) rfl rfl ?_
          refine o_iret rfl rfl ?_
          first
            | (exfalso; omega; done)
            | (exact ⟨rfl, Iv_up hI, rfl, rfl⟩)
            | (refine ⟨?_, Iv_up hI, rfl, rfl⟩
               by_cases z1 : k = -1
               · rw [cif_t (show k < 0 by omega), cif_t z1, hsd.1]
               · rw [cif_f (show ¬ k < 0 by omega), cif_f z1]
                 by_cases z2 : k < g 23 0 (2 * i + s)
                 · rw [cif_t z2, cif_t (by omega), hsd.2.2 k (by omega) z2]
                 · rw [cif_f z2, cif_f (by omega)])
            | (refine ⟨congrArg (fun z => some (vI z)) ?_, Iv_up hI, rfl, rfl⟩
               omega)
        · refine o_iload_n (n := 9) rfl rfl rfl ?_
          refine o_invsi (n := 12) rfl rfl rfl rfl rfl rfl (c8_isTwo _) ?_
          refine o_ifb_eq (n := 15) (t := 39) rfl rfl rfl (fun k12 => ?_) (fun k12 => ?_)
          · refine o_bipush (n := 41) rfl rfl ?_
            refine o_iret rfl rfl ?_
            first
              | (exfalso; omega; done)
              | (exact ⟨rfl, Iv_up hI, rfl, rfl⟩)
              | (refine ⟨?_, Iv_up hI, rfl, rfl⟩
                 by_cases z1 : k = -1
                 · rw [cif_t (show k < 0 by omega), cif_t z1, hsd.1]
                 · rw [cif_f (show ¬ k < 0 by omega), cif_f z1]
                   by_cases z2 : k < g 23 0 (2 * i + s)
                   · rw [cif_t z2, cif_t (by omega), hsd.2.2 k (by omega) z2]
                   · rw [cif_f z2, cif_f (by omega)])
              | (refine ⟨congrArg (fun z => some (vI z)) ?_, Iv_up hI, rfl, rfl⟩
                 omega)
          · refine o_iload_n (n := 16) rfl rfl rfl ?_
            refine o_i2l (n := 17) rfl rfl ?_
            refine o_ldc2_w (n := 20) rfl rfl ?_
            refine o_ldc2_w (n := 23) rfl rfl ?_
            refine o_invsi (n := 26) rfl rfl rfl rfl rfl rfl (c8_in _ _ _) ?_
            refine o_ifb_eq (n := 29) (t := 39) rfl rfl rfl (fun k26 => ?_) (fun k26 => ?_)
            · refine o_bipush (n := 41) rfl rfl ?_
              refine o_iret rfl rfl ?_
              first
                | (exfalso; omega; done)
                | (exact ⟨rfl, Iv_up hI, rfl, rfl⟩)
                | (refine ⟨?_, Iv_up hI, rfl, rfl⟩
                   by_cases z1 : k = -1
                   · rw [cif_t (show k < 0 by omega), cif_t z1, hsd.1]
                   · rw [cif_f (show ¬ k < 0 by omega), cif_f z1]
                     by_cases z2 : k < g 23 0 (2 * i + s)
                     · rw [cif_t z2, cif_t (by omega), hsd.2.2 k (by omega) z2]
                     · rw [cif_f z2, cif_f (by omega)])
                | (refine ⟨congrArg (fun z => some (vI z)) ?_, Iv_up hI, rfl, rfl⟩
                   omega)
            · refine o_aload_n (n := 30) rfl rfl rfl ?_
              refine o_iload_n (n := 31) rfl rfl rfl ?_
              refine o_iload_n (n := 32) rfl rfl rfl ?_
              refine o_iload_n (n := 33) rfl rfl rfl ?_
              refine o_invi (n := 36) rfl rfl rfl rfl rfl rfl rfl rfl rfl rfl (c8_sideBy hS _ _ _ (by omega) (by omega) (by omega) (by omega) (by omega) (by omega) (by omega)) ?_
              refine o_goto (t := 41) rfl rfl ?_
              refine o_iret rfl rfl ?_
              first
                | (exfalso; omega; done)
                | (exact ⟨rfl, Iv_up hI, rfl, rfl⟩)
                | (refine ⟨?_, Iv_up hI, rfl, rfl⟩
                   by_cases z1 : k = -1
                   · rw [cif_t (show k < 0 by omega), cif_t z1, hsd.1]
                   · rw [cif_f (show ¬ k < 0 by omega), cif_f z1]
                     by_cases z2 : k < g 23 0 (2 * i + s)
                     · rw [cif_t z2, cif_t (by omega), hsd.2.2 k (by omega) z2]
                     · rw [cif_f z2, cif_f (by omega)])
                | (refine ⟨congrArg (fun z => some (vI z)) ?_, Iv_up hI, rfl, rfl⟩
                   omega)
      · refine o_iload_n (n := 21) rfl rfl rfl ?_
        refine o_bipush (n := 23) rfl rfl ?_
        refine o_icmp_lt (n := 26) (t := 29) rfl rfl rfl (fun q23 => ?_) (fun q23 => ?_)
        · refine o_aload_n (n := 30) rfl rfl rfl ?_
          refine of_7_2 (n := 33) hS rfl rfl ?_
          refine o_iload_n (n := 34) rfl rfl rfl ?_
          refine o_ra14 (n := 35) hR rfl rfl (by omega) (by omega) (fun hA34 hB34 => ?_)
          refine o_iload_n (n := 36) rfl rfl rfl ?_
          refine o_invi (n := 39) rfl rfl rfl rfl rfl rfl rfl rfl rfl (ok_2 (by omega) (by omega)) (c2_half hS _ _ hA34 hB34 (by omega)) ?_
          refine o_iload_n (n := 40) rfl rfl rfl ?_
          have hsd := ru_s hru (k := i) (s := s) (by omega) (by omega) (by omega)
          refine o_invi (n := 43) rfl rfl rfl rfl rfl rfl rfl rfl rfl (ok_1 (by omega) (by omega)) (c1_lengthOrSign hS _ _ (by omega) (by omega) (by rw [al10 (by omega)]; omega)) ?_
          refine o_iret rfl rfl ?_
          refine q8_id ?_
          show Ou 132 0 [vR 8 0, vI i, vI s, vI k] [] g r _
          refine o_aload_n (n := 1) rfl rfl rfl ?_
          refine o_iload_n (n := 2) rfl rfl rfl ?_
          refine o_invi (n := 5) rfl rfl rfl rfl rfl rfl rfl rfl rfl rfl (c8_isRule _ (by omega) (by omega)) ?_
          refine o_ifb_eq (n := 8) (t := 39) rfl rfl rfl (fun k5 => ?_) (fun k5 => ?_)
          · refine o_bipush (n := 41) rfl rfl ?_
            refine o_iret rfl rfl ?_
            first
              | (exfalso; omega; done)
              | (exact ⟨rfl, Iv_up hI, rfl, rfl⟩)
              | (refine ⟨?_, Iv_up hI, rfl, rfl⟩
                 by_cases z1 : k = -1
                 · rw [cif_t (show k < 0 by omega), cif_t z1, hsd.1]
                 · rw [cif_f (show ¬ k < 0 by omega), cif_f z1]
                   by_cases z2 : k < g 23 0 (2 * i + s)
                   · rw [cif_t z2, cif_t (by omega), hsd.2.2 k (by omega) z2]
                   · rw [cif_f z2, cif_f (by omega)])
              | (refine ⟨congrArg (fun z => some (vI z)) ?_, Iv_up hI, rfl, rfl⟩
                 omega)
          · refine o_iload_n (n := 9) rfl rfl rfl ?_
            refine o_invsi (n := 12) rfl rfl rfl rfl rfl rfl (c8_isTwo _) ?_
            refine o_ifb_eq (n := 15) (t := 39) rfl rfl rfl (fun k12 => ?_) (fun k12 => ?_)
            · refine o_bipush (n := 41) rfl rfl ?_
              refine o_iret rfl rfl ?_
              first
                | (exfalso; omega; done)
                | (exact ⟨rfl, Iv_up hI, rfl, rfl⟩)
                | (refine ⟨?_, Iv_up hI, rfl, rfl⟩
                   by_cases z1 : k = -1
                   · rw [cif_t (show k < 0 by omega), cif_t z1, hsd.1]
                   · rw [cif_f (show ¬ k < 0 by omega), cif_f z1]
                     by_cases z2 : k < g 23 0 (2 * i + s)
                     · rw [cif_t z2, cif_t (by omega), hsd.2.2 k (by omega) z2]
                     · rw [cif_f z2, cif_f (by omega)])
                | (refine ⟨congrArg (fun z => some (vI z)) ?_, Iv_up hI, rfl, rfl⟩
                   omega)
            · refine o_iload_n (n := 16) rfl rfl rfl ?_
              refine o_i2l (n := 17) rfl rfl ?_
              refine o_ldc2_w (n := 20) rfl rfl ?_
              refine o_ldc2_w (n := 23) rfl rfl ?_
              refine o_invsi (n := 26) rfl rfl rfl rfl rfl rfl (c8_in _ _ _) ?_
              refine o_ifb_eq (n := 29) (t := 39) rfl rfl rfl (fun k26 => ?_) (fun k26 => ?_)
              · refine o_bipush (n := 41) rfl rfl ?_
                refine o_iret rfl rfl ?_
                first
                  | (exfalso; omega; done)
                  | (exact ⟨rfl, Iv_up hI, rfl, rfl⟩)
                  | (refine ⟨?_, Iv_up hI, rfl, rfl⟩
                     by_cases z1 : k = -1
                     · rw [cif_t (show k < 0 by omega), cif_t z1, hsd.1]
                     · rw [cif_f (show ¬ k < 0 by omega), cif_f z1]
                       by_cases z2 : k < g 23 0 (2 * i + s)
                       · rw [cif_t z2, cif_t (by omega), hsd.2.2 k (by omega) z2]
                       · rw [cif_f z2, cif_f (by omega)])
                  | (refine ⟨congrArg (fun z => some (vI z)) ?_, Iv_up hI, rfl, rfl⟩
                     omega)
              · refine o_aload_n (n := 30) rfl rfl rfl ?_
                refine o_iload_n (n := 31) rfl rfl rfl ?_
                refine o_iload_n (n := 32) rfl rfl rfl ?_
                refine o_iload_n (n := 33) rfl rfl rfl ?_
                refine o_invi (n := 36) rfl rfl rfl rfl rfl rfl rfl rfl rfl rfl (c8_sideBy hS _ _ _ (by omega) (by omega) (by omega) (by omega) (by omega) (by omega) (by omega)) ?_
                refine o_goto (t := 41) rfl rfl ?_
                refine o_iret rfl rfl ?_
                first
                  | (exfalso; omega; done)
                  | (exact ⟨rfl, Iv_up hI, rfl, rfl⟩)
                  | (refine ⟨?_, Iv_up hI, rfl, rfl⟩
                     by_cases z1 : k = -1
                     · rw [cif_t (show k < 0 by omega), cif_t z1, hsd.1]
                     · rw [cif_f (show ¬ k < 0 by omega), cif_f z1]
                       by_cases z2 : k < g 23 0 (2 * i + s)
                       · rw [cif_t z2, cif_t (by omega), hsd.2.2 k (by omega) z2]
                       · rw [cif_f z2, cif_f (by omega)])
                  | (refine ⟨congrArg (fun z => some (vI z)) ?_, Iv_up hI, rfl, rfl⟩
                     omega)
        · refine o_bipush (n := 28) rfl rfl ?_
          refine o_iret rfl rfl ?_
          refine q8_id ?_
          show Ou 132 0 [vR 8 0, vI i, vI s, vI k] [] g r _
          refine o_aload_n (n := 1) rfl rfl rfl ?_
          refine o_iload_n (n := 2) rfl rfl rfl ?_
          refine o_invi (n := 5) rfl rfl rfl rfl rfl rfl rfl rfl rfl rfl (c8_isRule _ (by omega) (by omega)) ?_
          refine o_ifb_eq (n := 8) (t := 39) rfl rfl rfl (fun k5 => ?_) (fun k5 => ?_)
          · refine o_bipush (n := 41) rfl rfl ?_
            refine o_iret rfl rfl ?_
            first
              | (exfalso; omega; done)
              | (exact ⟨rfl, Iv_up hI, rfl, rfl⟩)
              | (refine ⟨?_, Iv_up hI, rfl, rfl⟩
                 by_cases z1 : k = -1
                 · rw [cif_t (show k < 0 by omega), cif_t z1, hsd.1]
                 · rw [cif_f (show ¬ k < 0 by omega), cif_f z1]
                   by_cases z2 : k < g 23 0 (2 * i + s)
                   · rw [cif_t z2, cif_t (by omega), hsd.2.2 k (by omega) z2]
                   · rw [cif_f z2, cif_f (by omega)])
              | (refine ⟨congrArg (fun z => some (vI z)) ?_, Iv_up hI, rfl, rfl⟩
                 omega)
          · refine o_iload_n (n := 9) rfl rfl rfl ?_
            refine o_invsi (n := 12) rfl rfl rfl rfl rfl rfl (c8_isTwo _) ?_
            refine o_ifb_eq (n := 15) (t := 39) rfl rfl rfl (fun k12 => ?_) (fun k12 => ?_)
            · refine o_bipush (n := 41) rfl rfl ?_
              refine o_iret rfl rfl ?_
              first
                | (exfalso; omega; done)
                | (exact ⟨rfl, Iv_up hI, rfl, rfl⟩)
                | (refine ⟨?_, Iv_up hI, rfl, rfl⟩
                   by_cases z1 : k = -1
                   · rw [cif_t (show k < 0 by omega), cif_t z1, hsd.1]
                   · rw [cif_f (show ¬ k < 0 by omega), cif_f z1]
                     by_cases z2 : k < g 23 0 (2 * i + s)
                     · rw [cif_t z2, cif_t (by omega), hsd.2.2 k (by omega) z2]
                     · rw [cif_f z2, cif_f (by omega)])
                | (refine ⟨congrArg (fun z => some (vI z)) ?_, Iv_up hI, rfl, rfl⟩
                   omega)
            · refine o_iload_n (n := 16) rfl rfl rfl ?_
              refine o_i2l (n := 17) rfl rfl ?_
              refine o_ldc2_w (n := 20) rfl rfl ?_
              refine o_ldc2_w (n := 23) rfl rfl ?_
              refine o_invsi (n := 26) rfl rfl rfl rfl rfl rfl (c8_in _ _ _) ?_
              refine o_ifb_eq (n := 29) (t := 39) rfl rfl rfl (fun k26 => ?_) (fun k26 => ?_)
              · refine o_bipush (n := 41) rfl rfl ?_
                refine o_iret rfl rfl ?_
                first
                  | (exfalso; omega; done)
                  | (exact ⟨rfl, Iv_up hI, rfl, rfl⟩)
                  | (refine ⟨?_, Iv_up hI, rfl, rfl⟩
                     by_cases z1 : k = -1
                     · rw [cif_t (show k < 0 by omega), cif_t z1, hsd.1]
                     · rw [cif_f (show ¬ k < 0 by omega), cif_f z1]
                       by_cases z2 : k < g 23 0 (2 * i + s)
                       · rw [cif_t z2, cif_t (by omega), hsd.2.2 k (by omega) z2]
                       · rw [cif_f z2, cif_f (by omega)])
                  | (refine ⟨congrArg (fun z => some (vI z)) ?_, Iv_up hI, rfl, rfl⟩
                     omega)
              · refine o_aload_n (n := 30) rfl rfl rfl ?_
                refine o_iload_n (n := 31) rfl rfl rfl ?_
                refine o_iload_n (n := 32) rfl rfl rfl ?_
                refine o_iload_n (n := 33) rfl rfl rfl ?_
                refine o_invi (n := 36) rfl rfl rfl rfl rfl rfl rfl rfl rfl rfl (c8_sideBy hS _ _ _ (by omega) (by omega) (by omega) (by omega) (by omega) (by omega) (by omega)) ?_
                refine o_goto (t := 41) rfl rfl ?_
                refine o_iret rfl rfl ?_
                first
                  | (exfalso; omega; done)
                  | (exact ⟨rfl, Iv_up hI, rfl, rfl⟩)
                  | (refine ⟨?_, Iv_up hI, rfl, rfl⟩
                     by_cases z1 : k = -1
                     · rw [cif_t (show k < 0 by omega), cif_t z1, hsd.1]
                     · rw [cif_f (show ¬ k < 0 by omega), cif_f z1]
                       by_cases z2 : k < g 23 0 (2 * i + s)
                       · rw [cif_t z2, cif_t (by omega), hsd.2.2 k (by omega) z2]
                       · rw [cif_f z2, cif_f (by omega)])
                  | (refine ⟨congrArg (fun z => some (vI z)) ?_, Iv_up hI, rfl, rfl⟩
                     omega)
theorem p_sound  : Pr 58 154 [] := by
  intro c g r hc0 hc1 hI
  have hI' := hI
  obtain ⟨⟨hS, hR, h6, hP⟩, hsg, htx, hru, hwd, hnw, hst, hsh, hla⟩ := hI'
  show Ou 58 0 [vR 7 0] [] g r _
  obtain ⟨sg1, sg2, sg3⟩ := hI.2.1
  obtain ⟨tx1, tx2, tx3, tx4⟩ := hI.2.2.1
  have ru0 : g 7 0 10 = g 8 0 8 := hI.2.2.2.1.1.1
  have ru1 := hI.2.2.2.1.2.1.1
  have wd0 : g 1 0 1 = g 8 0 14 := hI.2.2.2.2.1.1.1
  have wd1 := hI.2.2.2.2.1.2.1.1
  have wd2 := hI.2.2.2.2.1.2.2
  have nw0 : g 0 0 0 = g 27 0 8 := hI.2.2.2.2.2.1.1.1
  have nw1 : g 0 0 1 = g 28 0 8 := hI.2.2.2.2.2.1.1.2.1
  have nw2 := hI.2.2.2.2.2.1.2.1
  have nw3 := hI.2.2.2.2.2.1.2.2.1
  have st0 := hI.2.2.2.2.2.2.1.1
  have st1 := hI.2.2.2.2.2.2.1.2.1
  have st2 := hI.2.2.2.2.2.2.1.2.2.1
  have la0 : g 7 0 13 = g 8 0 4 := hI.2.2.2.2.2.2.2.2
  refine o_aload_n (n := 1) rfl rfl rfl ?_
  refine of_7_5 (n := 4) hS rfl rfl ?_
  refine o_aload_n (n := 5) rfl rfl rfl ?_
  refine o_geti (n := 8) rfl rfl rfl rfl rfl ?_
  refine o_invi (n := 11) rfl rfl rfl rfl rfl rfl rfl rfl rfl (ok_0 (by omega) (by omega)) (c0_isSound (m := g 7 0 9) hS (by omega) (by omega) (by omega) (by omega) hnw.2 hnw.1) ?_
  refine o_invsi (n := 14) rfl rfl rfl rfl rfl rfl (c7_bit _) ?_
  refine o_iret rfl rfl ?_
  refine q8_id ?_
  show Ou 154 0 [vR 8 0] [] g r _
  refine o_aload_n (n := 1) rfl rfl rfl ?_
  refine o_bipush (n := 3) rfl rfl ?_
  refine o_invi (n := 6) rfl rfl rfl rfl rfl rfl rfl rfl rfl rfl (c8_isSound (m := g 7 0 9) hS (by omega) (by omega) (by omega) (by omega) sg3 hnw.2 (Vr8_E 8)) ?_
  refine o_ifb_eq (n := 9) (t := 13) rfl rfl rfl (fun k6 => ?_) (fun k6 => ?_)
  · refine o_iconst (n := 14) rfl rfl ?_
    refine o_iret rfl rfl ?_
    first
      | (exfalso; omega; done)
      | (exact ⟨rfl, Iv_up hI, rfl, rfl⟩)
      | (refine ⟨?_, Iv_up hI, rfl, rfl⟩
         rw [bi_t (by assumption)])
      | (refine ⟨?_, Iv_up hI, rfl, rfl⟩
         rw [bi_f (by assumption)])
      | (refine ⟨congrArg (fun z => some (vI z)) ?_, Iv_up hI, rfl, rfl⟩
         omega)
  · refine o_iconst (n := 10) rfl rfl ?_
    refine o_goto (t := 14) rfl rfl ?_
    refine o_iret rfl rfl ?_
    first
      | (exfalso; omega; done)
      | (exact ⟨rfl, Iv_up hI, rfl, rfl⟩)
      | (refine ⟨?_, Iv_up hI, rfl, rfl⟩
         rw [bi_t (by assumption)])
      | (refine ⟨?_, Iv_up hI, rfl, rfl⟩
         rw [bi_f (by assumption)])
      | (refine ⟨congrArg (fun z => some (vI z)) ?_, Iv_up hI, rfl, rfl⟩
         omega)
theorem p_enter (a : Int) (b : Int) (d : Int) (v : Int) : Pr 55 151 [vI a, vI b, vI d, vI v] := by
  intro c g r hc0 hc1 hI
  have hI' := hI
  obtain ⟨⟨hS, hR, h6, hP⟩, hsg, htx, hru, hwd, hnw, hst, hsh, hla⟩ := hI'
  show Ou 55 0 [vR 7 0, vI a, vI b, vI d, vI v, vN] [] g r _
  obtain ⟨sg1, sg2, sg3⟩ := hI.2.1
  obtain ⟨tx1, tx2, tx3, tx4⟩ := hI.2.2.1
  have ru0 : g 7 0 10 = g 8 0 8 := hI.2.2.2.1.1.1
  have ru1 := hI.2.2.2.1.2.1.1
  have wd0 : g 1 0 1 = g 8 0 14 := hI.2.2.2.2.1.1.1
  have wd1 := hI.2.2.2.2.1.2.1.1
  have wd2 := hI.2.2.2.2.1.2.2
  have nw0 : g 0 0 0 = g 27 0 8 := hI.2.2.2.2.2.1.1.1
  have nw1 : g 0 0 1 = g 28 0 8 := hI.2.2.2.2.2.1.1.2.1
  have nw2 := hI.2.2.2.2.2.1.2.1
  have nw3 := hI.2.2.2.2.2.1.2.2.1
  have st0 := hI.2.2.2.2.2.2.1.1
  have st1 := hI.2.2.2.2.2.2.1.2.1
  have st2 := hI.2.2.2.2.2.2.1.2.2.1
  have la0 : g 7 0 13 = g 8 0 4 := hI.2.2.2.2.2.2.2.2
  refine o_aload_n (n := 1) rfl rfl rfl ?_
  refine o_iload_n (n := 2) rfl rfl rfl ?_
  refine o_iload_n (n := 3) rfl rfl rfl ?_
  refine o_iload_n (n := 4) rfl rfl rfl ?_
  refine o_invi (n := 7) rfl rfl rfl rfl rfl rfl rfl rfl rfl rfl (c7_isPlace _ _ _) ?_
  refine o_ifb_eq (n := 10) (t := 18) rfl rfl rfl (fun q7 => ?_) (fun q7 => ?_)
  · refine o_bipush (n := 20) rfl rfl ?_
    refine o_iret rfl rfl ?_
    refine q8_of (g := g) (r := r) (fun k hk => by first | rfl | exact gset_kf (isM_ne hk (by decide)) | exact (gset_kf (isM_ne hk (by decide))).trans (gset_kf (isM_ne hk (by decide))) | exact (gset_kf (isM_ne hk (by decide))).trans ((gset_kf (isM_ne hk (by decide))).trans (gset_kf (isM_ne hk (by decide)))) | exact (gset_kf (isM_ne hk (by decide))).trans ((gset_kf (isM_ne hk (by decide))).trans ((gset_kf (isM_ne hk (by decide))).trans (gset_kf (isM_ne hk (by decide)))))) hI (fun h hh hJ => ?_)
    show Ou 151 0 [vR 8 0, vI a, vI b, vI d, vI v, vN] [] h _ _
    obtain ⟨jsg1, jsg2, jsg3⟩ := hJ.2.1
    obtain ⟨jtx1, jtx2, jtx3, jtx4⟩ := hJ.2.2.1
    have jru0 : g 7 0 10 = h 8 0 8 := hJ.2.2.2.1.1.1
    have jru1 := hJ.2.2.2.1.2.1.1
    have jwd0 : g 1 0 1 = h 8 0 14 := hJ.2.2.2.2.1.1.1
    have jwd1 := hJ.2.2.2.2.1.2.1.1
    have jwd2 := hJ.2.2.2.2.1.2.2
    have jnw0 : g 0 0 0 = h 27 0 8 := hJ.2.2.2.2.2.1.1.1
    have jnw1 : g 0 0 1 = h 28 0 8 := hJ.2.2.2.2.2.1.1.2.1
    have jnw2 := hJ.2.2.2.2.2.1.2.1
    have jnw3 := hJ.2.2.2.2.2.1.2.2.1
    have jst0 := hJ.2.2.2.2.2.2.1.1
    have jst1 := hJ.2.2.2.2.2.2.1.2.1
    have jst2 := hJ.2.2.2.2.2.2.1.2.2.1
    have jla0 : g 7 0 13 = h 8 0 4 := hJ.2.2.2.2.2.2.2.2
    refine o_aload_n (n := 1) rfl rfl rfl ?_
    refine o_iload_n (n := 2) rfl rfl rfl ?_
    refine o_iload_n (n := 3) rfl rfl rfl ?_
    refine o_iload_n (n := 4) rfl rfl rfl ?_
    refine o_invi (n := 7) rfl rfl rfl rfl rfl rfl rfl rfl rfl rfl (c8_isEntry _ _ _ (by omega) (by omega)) ?_
    refine o_ifb_eq (n := 10) (t := 25) rfl rfl rfl (fun k7 => ?_) (fun k7 => ?_)
    · refine o_bipush (n := 27) rfl rfl ?_
      refine o_iret rfl rfl ?_
      first
        | (exfalso; omega; done)
        | (refine ⟨rfl, ?_, ?_, ?_⟩
           · subst hh; exact ⟨⟨hS, hR, h6, hP⟩, Isg_c (g := g) (h := g) rfl rfl hsg, Itx_c (g := g) (h := g) rfl rfl rfl rfl htx, Iru_c (g := g) (h := g) (r := r) (by omega) hR (fun _ _ _ => rfl) (fun _ _ _ => rfl) rfl rfl rfl rfl rfl rfl rfl rfl hru, Iwd_c (g := g) (h := g) (by omega) rfl rfl rfl rfl rfl rfl hwd, Inw_c (g := g) (h := g) rfl rfl rfl rfl (fun _ _ _ => rfl) hnw, Ist_c (g := g) (h := g) (r := r) hR rfl rfl (fun _ _ _ => rfl) (fun _ _ _ => rfl) rfl rfl rfl rfl (fun _ _ => rfl) (fun _ _ => rfl) (fun _ _ => rfl) rfl rfl rfl hst, Ish_c (g := g) (h := g) rfl rfl rfl rfl rfl hsh, Ila_c (g := g) (h := g) rfl rfl hla⟩
           · subst hh; rfl
           · subst hh; rfl)
        | (refine ⟨congrArg (fun z => some (vI z)) ?_, ?_, ?_, ?_⟩
           · omega
           · subst hh; exact ⟨⟨hS, hR, h6, hP⟩, Isg_c (g := g) (h := g) rfl rfl hsg, Itx_c (g := g) (h := g) rfl rfl rfl rfl htx, Iru_c (g := g) (h := g) (r := r) (by omega) hR (fun _ _ _ => rfl) (fun _ _ _ => rfl) rfl rfl rfl rfl rfl rfl rfl rfl hru, Iwd_c (g := g) (h := g) (by omega) rfl rfl rfl rfl rfl rfl hwd, Inw_c (g := g) (h := g) rfl rfl rfl rfl (fun _ _ _ => rfl) hnw, Ist_c (g := g) (h := g) (r := r) hR rfl rfl (fun _ _ _ => rfl) (fun _ _ _ => rfl) rfl rfl rfl rfl (fun _ _ => rfl) (fun _ _ => rfl) (fun _ _ => rfl) rfl rfl rfl hst, Ish_c (g := g) (h := g) rfl rfl rfl rfl rfl hsh, Ila_c (g := g) (h := g) rfl rfl hla⟩
           · subst hh; rfl
           · subst hh; rfl)
    · refine o_iload (n := 12) rfl rfl rfl ?_
      refine o_i2l (n := 13) rfl rfl ?_
      refine o_ldc2_w (n := 16) rfl rfl ?_
      refine o_ldc2_w (n := 19) rfl rfl ?_
      refine o_invsi (n := 22) rfl rfl rfl rfl rfl rfl (c8_in _ _ _) ?_
      refine o_ifb_ne (n := 25) (t := 28) rfl rfl rfl (fun k22 => ?_) (fun k22 => ?_)
      · refine o_aload_n (n := 29) rfl rfl rfl ?_
        refine o_bipush (n := 31) rfl rfl ?_
        refine o_iload_n (n := 32) rfl rfl rfl ?_
        refine o_iload_n (n := 33) rfl rfl rfl ?_
        refine o_iload_n (n := 34) rfl rfl rfl ?_
        refine o_invi (n := 37) rfl rfl rfl rfl rfl rfl rfl rfl rfl rfl (c8_entryBy hS _ _ _ _ (by omega) (by omega) (by omega) (by omega) (by omega) (by omega) (by omega) (by omega)) ?_
        refine o_istore_5 (n := 39) rfl rfl rfl ?_
        refine o_aload_n (n := 40) rfl rfl rfl ?_
        refine of_8_16 (n := 43) hS rfl rfl ?_
        refine o_sipush (n := 46) rfl rfl ?_
        refine o_bipush (n := 48) rfl rfl ?_
        refine o_iload_n (n := 49) rfl rfl rfl ?_
        refine o_imul (n := 50) rfl rfl (by omega) ?_
        refine o_iadd (n := 51) rfl rfl (by omega) ?_
        refine o_iconst (n := 52) rfl rfl ?_
        refine o_iload_n (n := 53) rfl rfl rfl ?_
        refine o_imul (n := 54) rfl rfl (by omega) ?_
        refine o_iadd (n := 55) rfl rfl (by omega) ?_
        refine o_iload_n (n := 56) rfl rfl rfl ?_
        refine o_iadd (n := 57) rfl rfl (by omega) ?_
        refine o_iload (n := 59) rfl rfl rfl ?_
        refine o_iast (n := 60) (L := 324) rfl rfl rfl rfl rfl (by omega) (by omega) ?_
        refine o_iload (n := 62) rfl rfl rfl ?_
        refine o_iret rfl rfl ?_
        first
          | (exfalso; omega; done)
          | (refine ⟨rfl, ?_, ?_, ?_⟩
             · subst hh; exact ⟨⟨hS, hR, h6, hP⟩, Isg_c (g := g) (h := g) rfl rfl hsg, Itx_c (g := g) (h := g) rfl rfl rfl rfl htx, Iru_c (g := g) (h := g) (r := r) (by omega) hR (fun _ _ _ => rfl) (fun _ _ _ => rfl) rfl rfl rfl rfl rfl rfl rfl rfl hru, Iwd_c (g := g) (h := g) (by omega) rfl rfl rfl rfl rfl rfl hwd, Inw_c (g := gset g 9 0 (a * 9 + b * 3 + d) v) (h := gset g 26 0 (288 + 9 * a + 3 * b + d) v) rfl rfl rfl rfl (fun _ _ _ => rfl) (Inw_set (by omega) (by omega) (by omega) (by omega) (by omega) (by omega) (by omega) (by omega) hnw), Ist_c (g := g) (h := g) (r := r) hR rfl rfl (fun _ _ _ => rfl) (fun q s z => (gset_k rfl).trans (gset_i (by omega))) rfl rfl rfl rfl (fun _ _ => rfl) (fun _ _ => rfl) (fun q z => (gset_s (by omega)).trans (gset_k rfl)) rfl rfl rfl hst, Ish_c (g := g) (h := g) rfl rfl rfl rfl rfl hsh, Ila_c (g := g) (h := g) rfl rfl hla⟩
             · subst hh; rfl
             · subst hh; rfl)
          | (refine ⟨congrArg (fun z => some (vI z)) ?_, ?_, ?_, ?_⟩
             · rw [nw_e (h := h) hJ.2.2.2.2.2.1 (by omega) (by omega) (by omega) (by omega) (by omega) (by omega)]
             · subst hh; exact ⟨⟨hS, hR, h6, hP⟩, Isg_c (g := g) (h := g) rfl rfl hsg, Itx_c (g := g) (h := g) rfl rfl rfl rfl htx, Iru_c (g := g) (h := g) (r := r) (by omega) hR (fun _ _ _ => rfl) (fun _ _ _ => rfl) rfl rfl rfl rfl rfl rfl rfl rfl hru, Iwd_c (g := g) (h := g) (by omega) rfl rfl rfl rfl rfl rfl hwd, Inw_c (g := gset g 9 0 (a * 9 + b * 3 + d) v) (h := gset g 26 0 (288 + 9 * a + 3 * b + d) v) rfl rfl rfl rfl (fun _ _ _ => rfl) (Inw_set (by omega) (by omega) (by omega) (by omega) (by omega) (by omega) (by omega) (by omega) hnw), Ist_c (g := g) (h := g) (r := r) hR rfl rfl (fun _ _ _ => rfl) (fun q s z => (gset_k rfl).trans (gset_i (by omega))) rfl rfl rfl rfl (fun _ _ => rfl) (fun _ _ => rfl) (fun q z => (gset_s (by omega)).trans (gset_k rfl)) rfl rfl rfl hst, Ish_c (g := g) (h := g) rfl rfl rfl rfl rfl hsh, Ila_c (g := g) (h := g) rfl rfl hla⟩
             · subst hh; rfl
             · subst hh; rfl)
      · refine o_bipush (n := 27) rfl rfl ?_
        refine o_iret rfl rfl ?_
        first
          | (exfalso; omega; done)
          | (refine ⟨rfl, ?_, ?_, ?_⟩
             · subst hh; exact ⟨⟨hS, hR, h6, hP⟩, Isg_c (g := g) (h := g) rfl rfl hsg, Itx_c (g := g) (h := g) rfl rfl rfl rfl htx, Iru_c (g := g) (h := g) (r := r) (by omega) hR (fun _ _ _ => rfl) (fun _ _ _ => rfl) rfl rfl rfl rfl rfl rfl rfl rfl hru, Iwd_c (g := g) (h := g) (by omega) rfl rfl rfl rfl rfl rfl hwd, Inw_c (g := g) (h := g) rfl rfl rfl rfl (fun _ _ _ => rfl) hnw, Ist_c (g := g) (h := g) (r := r) hR rfl rfl (fun _ _ _ => rfl) (fun _ _ _ => rfl) rfl rfl rfl rfl (fun _ _ => rfl) (fun _ _ => rfl) (fun _ _ => rfl) rfl rfl rfl hst, Ish_c (g := g) (h := g) rfl rfl rfl rfl rfl hsh, Ila_c (g := g) (h := g) rfl rfl hla⟩
             · subst hh; rfl
             · subst hh; rfl)
          | (refine ⟨congrArg (fun z => some (vI z)) ?_, ?_, ?_, ?_⟩
             · omega
             · subst hh; exact ⟨⟨hS, hR, h6, hP⟩, Isg_c (g := g) (h := g) rfl rfl hsg, Itx_c (g := g) (h := g) rfl rfl rfl rfl htx, Iru_c (g := g) (h := g) (r := r) (by omega) hR (fun _ _ _ => rfl) (fun _ _ _ => rfl) rfl rfl rfl rfl rfl rfl rfl rfl hru, Iwd_c (g := g) (h := g) (by omega) rfl rfl rfl rfl rfl rfl hwd, Inw_c (g := g) (h := g) rfl rfl rfl rfl (fun _ _ _ => rfl) hnw, Ist_c (g := g) (h := g) (r := r) hR rfl rfl (fun _ _ _ => rfl) (fun _ _ _ => rfl) rfl rfl rfl rfl (fun _ _ => rfl) (fun _ _ => rfl) (fun _ _ => rfl) rfl rfl rfl hst, Ish_c (g := g) (h := g) rfl rfl rfl rfl rfl hsh, Ila_c (g := g) (h := g) rfl rfl hla⟩
             · subst hh; rfl
             · subst hh; rfl)
  · refine o_iload (n := 12) rfl rfl rfl ?_
    refine o_invsi (n := 15) rfl rfl rfl rfl rfl rfl (c7_isEntry _) ?_
    refine o_ifb_ne (n := 18) (t := 21) rfl rfl rfl (fun q15 => ?_) (fun q15 => ?_)
    · refine o_aload_n (n := 22) rfl rfl rfl ?_
      refine of_7_5 (n := 25) hS rfl rfl ?_
      refine o_iload_n (n := 26) rfl rfl rfl ?_
      refine o_iload_n (n := 27) rfl rfl rfl ?_
      refine o_iload_n (n := 28) rfl rfl rfl ?_
      refine o_invi (n := 31) rfl rfl rfl rfl rfl rfl rfl rfl rfl (ok_0 (by omega) (by omega)) (c0_entryAt hS _ _ _ _ (by omega) (by omega) (by omega) (by omega) (by omega) (by omega) (by omega) (by omega)) ?_
      refine o_istore_5 (n := 33) rfl rfl rfl ?_
      refine o_aload_n (n := 34) rfl rfl rfl ?_
      refine of_7_5 (n := 37) hS rfl rfl ?_
      refine o_iload_n (n := 38) rfl rfl rfl ?_
      refine o_iload_n (n := 39) rfl rfl rfl ?_
      refine o_iload_n (n := 40) rfl rfl rfl ?_
      refine o_iload (n := 42) rfl rfl rfl ?_
      refine o_invv (n := 45) rfl rfl rfl rfl rfl rfl rfl rfl rfl (ok_0 (by omega) (by omega)) (c0_tell hS _ _ _ _ _ (by omega) (by omega) (by omega) (by omega) (by omega) (by omega) (by omega) (by omega)) ?_
      refine o_iload (n := 47) rfl rfl rfl ?_
      refine o_iret rfl rfl ?_
      refine q8_of (g := g) (r := r) (fun k hk => by first | rfl | exact gset_kf (isM_ne hk (by decide)) | exact (gset_kf (isM_ne hk (by decide))).trans (gset_kf (isM_ne hk (by decide))) | exact (gset_kf (isM_ne hk (by decide))).trans ((gset_kf (isM_ne hk (by decide))).trans (gset_kf (isM_ne hk (by decide)))) | exact (gset_kf (isM_ne hk (by decide))).trans ((gset_kf (isM_ne hk (by decide))).trans ((gset_kf (isM_ne hk (by decide))).trans (gset_kf (isM_ne hk (by decide)))))) hI (fun h hh hJ => ?_)
      show Ou 151 0 [vR 8 0, vI a, vI b, vI d, vI v, vN] [] h _ _
      obtain ⟨jsg1, jsg2, jsg3⟩ := hJ.2.1
      obtain ⟨jtx1, jtx2, jtx3, jtx4⟩ := hJ.2.2.1
      have jru0 : g 7 0 10 = h 8 0 8 := hJ.2.2.2.1.1.1
      have jru1 := hJ.2.2.2.1.2.1.1
      have jwd0 : g 1 0 1 = h 8 0 14 := hJ.2.2.2.2.1.1.1
      have jwd1 := hJ.2.2.2.2.1.2.1.1
      have jwd2 := hJ.2.2.2.2.1.2.2
      have jnw0 : g 0 0 0 = h 27 0 8 := hJ.2.2.2.2.2.1.1.1
      have jnw1 : g 0 0 1 = h 28 0 8 := hJ.2.2.2.2.2.1.1.2.1
      have jnw2 := hJ.2.2.2.2.2.1.2.1
      have jnw3 := hJ.2.2.2.2.2.1.2.2.1
      have jst0 := hJ.2.2.2.2.2.2.1.1
      have jst1 := hJ.2.2.2.2.2.2.1.2.1
      have jst2 := hJ.2.2.2.2.2.2.1.2.2.1
      have jla0 : g 7 0 13 = h 8 0 4 := hJ.2.2.2.2.2.2.2.2
      refine o_aload_n (n := 1) rfl rfl rfl ?_
      refine o_iload_n (n := 2) rfl rfl rfl ?_
      refine o_iload_n (n := 3) rfl rfl rfl ?_
      refine o_iload_n (n := 4) rfl rfl rfl ?_
      refine o_invi (n := 7) rfl rfl rfl rfl rfl rfl rfl rfl rfl rfl (c8_isEntry _ _ _ (by omega) (by omega)) ?_
      refine o_ifb_eq (n := 10) (t := 25) rfl rfl rfl (fun k7 => ?_) (fun k7 => ?_)
      · refine o_bipush (n := 27) rfl rfl ?_
        refine o_iret rfl rfl ?_
        first
          | (exfalso; omega; done)
          | (refine ⟨rfl, ?_, ?_, ?_⟩
             · subst hh; exact ⟨⟨hS, hR, h6, hP⟩, Isg_c (g := g) (h := g) rfl rfl hsg, Itx_c (g := g) (h := g) rfl rfl rfl rfl htx, Iru_c (g := g) (h := g) (r := r) (by omega) hR (fun _ _ _ => rfl) (fun _ _ _ => rfl) rfl rfl rfl rfl rfl rfl rfl rfl hru, Iwd_c (g := g) (h := g) (by omega) rfl rfl rfl rfl rfl rfl hwd, Inw_c (g := g) (h := g) rfl rfl rfl rfl (fun _ _ _ => rfl) hnw, Ist_c (g := g) (h := g) (r := r) hR rfl rfl (fun _ _ _ => rfl) (fun _ _ _ => rfl) rfl rfl rfl rfl (fun _ _ => rfl) (fun _ _ => rfl) (fun _ _ => rfl) rfl rfl rfl hst, Ish_c (g := g) (h := g) rfl rfl rfl rfl rfl hsh, Ila_c (g := g) (h := g) rfl rfl hla⟩
             · subst hh; rfl
             · subst hh; rfl)
          | (refine ⟨congrArg (fun z => some (vI z)) ?_, ?_, ?_, ?_⟩
             · omega
             · subst hh; exact ⟨⟨hS, hR, h6, hP⟩, Isg_c (g := g) (h := g) rfl rfl hsg, Itx_c (g := g) (h := g) rfl rfl rfl rfl htx, Iru_c (g := g) (h := g) (r := r) (by omega) hR (fun _ _ _ => rfl) (fun _ _ _ => rfl) rfl rfl rfl rfl rfl rfl rfl rfl hru, Iwd_c (g := g) (h := g) (by omega) rfl rfl rfl rfl rfl rfl hwd, Inw_c (g := g) (h := g) rfl rfl rfl rfl (fun _ _ _ => rfl) hnw, Ist_c (g := g) (h := g) (r := r) hR rfl rfl (fun _ _ _ => rfl) (fun _ _ _ => rfl) rfl rfl rfl rfl (fun _ _ => rfl) (fun _ _ => rfl) (fun _ _ => rfl) rfl rfl rfl hst, Ish_c (g := g) (h := g) rfl rfl rfl rfl rfl hsh, Ila_c (g := g) (h := g) rfl rfl hla⟩
             · subst hh; rfl
             · subst hh; rfl)
      · refine o_iload (n := 12) rfl rfl rfl ?_
        refine o_i2l (n := 13) rfl rfl ?_
        refine o_ldc2_w (n := 16) rfl rfl ?_
        refine o_ldc2_w (n := 19) rfl rfl ?_
        refine o_invsi (n := 22) rfl rfl rfl rfl rfl rfl (c8_in _ _ _) ?_
        refine o_ifb_ne (n := 25) (t := 28) rfl rfl rfl (fun k22 => ?_) (fun k22 => ?_)
        · refine o_aload_n (n := 29) rfl rfl rfl ?_
          refine o_bipush (n := 31) rfl rfl ?_
          refine o_iload_n (n := 32) rfl rfl rfl ?_
          refine o_iload_n (n := 33) rfl rfl rfl ?_
          refine o_iload_n (n := 34) rfl rfl rfl ?_
          refine o_invi (n := 37) rfl rfl rfl rfl rfl rfl rfl rfl rfl rfl (c8_entryBy hS _ _ _ _ (by omega) (by omega) (by omega) (by omega) (by omega) (by omega) (by omega) (by omega)) ?_
          refine o_istore_5 (n := 39) rfl rfl rfl ?_
          refine o_aload_n (n := 40) rfl rfl rfl ?_
          refine of_8_16 (n := 43) hS rfl rfl ?_
          refine o_sipush (n := 46) rfl rfl ?_
          refine o_bipush (n := 48) rfl rfl ?_
          refine o_iload_n (n := 49) rfl rfl rfl ?_
          refine o_imul (n := 50) rfl rfl (by omega) ?_
          refine o_iadd (n := 51) rfl rfl (by omega) ?_
          refine o_iconst (n := 52) rfl rfl ?_
          refine o_iload_n (n := 53) rfl rfl rfl ?_
          refine o_imul (n := 54) rfl rfl (by omega) ?_
          refine o_iadd (n := 55) rfl rfl (by omega) ?_
          refine o_iload_n (n := 56) rfl rfl rfl ?_
          refine o_iadd (n := 57) rfl rfl (by omega) ?_
          refine o_iload (n := 59) rfl rfl rfl ?_
          refine o_iast (n := 60) (L := 324) rfl rfl rfl rfl rfl (by omega) (by omega) ?_
          refine o_iload (n := 62) rfl rfl rfl ?_
          refine o_iret rfl rfl ?_
          first
            | (exfalso; omega; done)
            | (refine ⟨rfl, ?_, ?_, ?_⟩
               · subst hh; exact ⟨⟨hS, hR, h6, hP⟩, Isg_c (g := g) (h := g) rfl rfl hsg, Itx_c (g := g) (h := g) rfl rfl rfl rfl htx, Iru_c (g := g) (h := g) (r := r) (by omega) hR (fun _ _ _ => rfl) (fun _ _ _ => rfl) rfl rfl rfl rfl rfl rfl rfl rfl hru, Iwd_c (g := g) (h := g) (by omega) rfl rfl rfl rfl rfl rfl hwd, Inw_c (g := gset g 9 0 (a * 9 + b * 3 + d) v) (h := gset g 26 0 (288 + 9 * a + 3 * b + d) v) rfl rfl rfl rfl (fun _ _ _ => rfl) (Inw_set (by omega) (by omega) (by omega) (by omega) (by omega) (by omega) (by omega) (by omega) hnw), Ist_c (g := g) (h := g) (r := r) hR rfl rfl (fun _ _ _ => rfl) (fun q s z => (gset_k rfl).trans (gset_i (by omega))) rfl rfl rfl rfl (fun _ _ => rfl) (fun _ _ => rfl) (fun q z => (gset_s (by omega)).trans (gset_k rfl)) rfl rfl rfl hst, Ish_c (g := g) (h := g) rfl rfl rfl rfl rfl hsh, Ila_c (g := g) (h := g) rfl rfl hla⟩
               · subst hh; rfl
               · subst hh; rfl)
            | (refine ⟨congrArg (fun z => some (vI z)) ?_, ?_, ?_, ?_⟩
               · rw [nw_e (h := h) hJ.2.2.2.2.2.1 (by omega) (by omega) (by omega) (by omega) (by omega) (by omega)]
               · subst hh; exact ⟨⟨hS, hR, h6, hP⟩, Isg_c (g := g) (h := g) rfl rfl hsg, Itx_c (g := g) (h := g) rfl rfl rfl rfl htx, Iru_c (g := g) (h := g) (r := r) (by omega) hR (fun _ _ _ => rfl) (fun _ _ _ => rfl) rfl rfl rfl rfl rfl rfl rfl rfl hru, Iwd_c (g := g) (h := g) (by omega) rfl rfl rfl rfl rfl rfl hwd, Inw_c (g := gset g 9 0 (a * 9 + b * 3 + d) v) (h := gset g 26 0 (288 + 9 * a + 3 * b + d) v) rfl rfl rfl rfl (fun _ _ _ => rfl) (Inw_set (by omega) (by omega) (by omega) (by omega) (by omega) (by omega) (by omega) (by omega) hnw), Ist_c (g := g) (h := g) (r := r) hR rfl rfl (fun _ _ _ => rfl) (fun q s z => (gset_k rfl).trans (gset_i (by omega))) rfl rfl rfl rfl (fun _ _ => rfl) (fun _ _ => rfl) (fun q z => (gset_s (by omega)).trans (gset_k rfl)) rfl rfl rfl hst, Ish_c (g := g) (h := g) rfl rfl rfl rfl rfl hsh, Ila_c (g := g) (h := g) rfl rfl hla⟩
               · subst hh; rfl
               · subst hh; rfl)
        · refine o_bipush (n := 27) rfl rfl ?_
          refine o_iret rfl rfl ?_
          first
            | (exfalso; omega; done)
            | (refine ⟨rfl, ?_, ?_, ?_⟩
               · subst hh; exact ⟨⟨hS, hR, h6, hP⟩, Isg_c (g := g) (h := g) rfl rfl hsg, Itx_c (g := g) (h := g) rfl rfl rfl rfl htx, Iru_c (g := g) (h := g) (r := r) (by omega) hR (fun _ _ _ => rfl) (fun _ _ _ => rfl) rfl rfl rfl rfl rfl rfl rfl rfl hru, Iwd_c (g := g) (h := g) (by omega) rfl rfl rfl rfl rfl rfl hwd, Inw_c (g := g) (h := g) rfl rfl rfl rfl (fun _ _ _ => rfl) hnw, Ist_c (g := g) (h := g) (r := r) hR rfl rfl (fun _ _ _ => rfl) (fun _ _ _ => rfl) rfl rfl rfl rfl (fun _ _ => rfl) (fun _ _ => rfl) (fun _ _ => rfl) rfl rfl rfl hst, Ish_c (g := g) (h := g) rfl rfl rfl rfl rfl hsh, Ila_c (g := g) (h := g) rfl rfl hla⟩
               · subst hh; rfl
               · subst hh; rfl)
            | (refine ⟨congrArg (fun z => some (vI z)) ?_, ?_, ?_, ?_⟩
               · omega
               · subst hh; exact ⟨⟨hS, hR, h6, hP⟩, Isg_c (g := g) (h := g) rfl rfl hsg, Itx_c (g := g) (h := g) rfl rfl rfl rfl htx, Iru_c (g := g) (h := g) (r := r) (by omega) hR (fun _ _ _ => rfl) (fun _ _ _ => rfl) rfl rfl rfl rfl rfl rfl rfl rfl hru, Iwd_c (g := g) (h := g) (by omega) rfl rfl rfl rfl rfl rfl hwd, Inw_c (g := g) (h := g) rfl rfl rfl rfl (fun _ _ _ => rfl) hnw, Ist_c (g := g) (h := g) (r := r) hR rfl rfl (fun _ _ _ => rfl) (fun _ _ _ => rfl) rfl rfl rfl rfl (fun _ _ => rfl) (fun _ _ => rfl) (fun _ _ => rfl) rfl rfl rfl hst, Ish_c (g := g) (h := g) rfl rfl rfl rfl rfl hsh, Ila_c (g := g) (h := g) rfl rfl hla⟩
               · subst hh; rfl
               · subst hh; rfl)
    · refine o_bipush (n := 20) rfl rfl ?_
      refine o_iret rfl rfl ?_
      refine q8_of (g := g) (r := r) (fun k hk => by first | rfl | exact gset_kf (isM_ne hk (by decide)) | exact (gset_kf (isM_ne hk (by decide))).trans (gset_kf (isM_ne hk (by decide))) | exact (gset_kf (isM_ne hk (by decide))).trans ((gset_kf (isM_ne hk (by decide))).trans (gset_kf (isM_ne hk (by decide)))) | exact (gset_kf (isM_ne hk (by decide))).trans ((gset_kf (isM_ne hk (by decide))).trans ((gset_kf (isM_ne hk (by decide))).trans (gset_kf (isM_ne hk (by decide)))))) hI (fun h hh hJ => ?_)
      show Ou 151 0 [vR 8 0, vI a, vI b, vI d, vI v, vN] [] h _ _
      obtain ⟨jsg1, jsg2, jsg3⟩ := hJ.2.1
      obtain ⟨jtx1, jtx2, jtx3, jtx4⟩ := hJ.2.2.1
      have jru0 : g 7 0 10 = h 8 0 8 := hJ.2.2.2.1.1.1
      have jru1 := hJ.2.2.2.1.2.1.1
      have jwd0 : g 1 0 1 = h 8 0 14 := hJ.2.2.2.2.1.1.1
      have jwd1 := hJ.2.2.2.2.1.2.1.1
      have jwd2 := hJ.2.2.2.2.1.2.2
      have jnw0 : g 0 0 0 = h 27 0 8 := hJ.2.2.2.2.2.1.1.1
      have jnw1 : g 0 0 1 = h 28 0 8 := hJ.2.2.2.2.2.1.1.2.1
      have jnw2 := hJ.2.2.2.2.2.1.2.1
      have jnw3 := hJ.2.2.2.2.2.1.2.2.1
      have jst0 := hJ.2.2.2.2.2.2.1.1
      have jst1 := hJ.2.2.2.2.2.2.1.2.1
      have jst2 := hJ.2.2.2.2.2.2.1.2.2.1
      have jla0 : g 7 0 13 = h 8 0 4 := hJ.2.2.2.2.2.2.2.2
      refine o_aload_n (n := 1) rfl rfl rfl ?_
      refine o_iload_n (n := 2) rfl rfl rfl ?_
      refine o_iload_n (n := 3) rfl rfl rfl ?_
      refine o_iload_n (n := 4) rfl rfl rfl ?_
      refine o_invi (n := 7) rfl rfl rfl rfl rfl rfl rfl rfl rfl rfl (c8_isEntry _ _ _ (by omega) (by omega)) ?_
      refine o_ifb_eq (n := 10) (t := 25) rfl rfl rfl (fun k7 => ?_) (fun k7 => ?_)
      · refine o_bipush (n := 27) rfl rfl ?_
        refine o_iret rfl rfl ?_
        first
          | (exfalso; omega; done)
          | (refine ⟨rfl, ?_, ?_, ?_⟩
             · subst hh; exact ⟨⟨hS, hR, h6, hP⟩, Isg_c (g := g) (h := g) rfl rfl hsg, Itx_c (g := g) (h := g) rfl rfl rfl rfl htx, Iru_c (g := g) (h := g) (r := r) (by omega) hR (fun _ _ _ => rfl) (fun _ _ _ => rfl) rfl rfl rfl rfl rfl rfl rfl rfl hru, Iwd_c (g := g) (h := g) (by omega) rfl rfl rfl rfl rfl rfl hwd, Inw_c (g := g) (h := g) rfl rfl rfl rfl (fun _ _ _ => rfl) hnw, Ist_c (g := g) (h := g) (r := r) hR rfl rfl (fun _ _ _ => rfl) (fun _ _ _ => rfl) rfl rfl rfl rfl (fun _ _ => rfl) (fun _ _ => rfl) (fun _ _ => rfl) rfl rfl rfl hst, Ish_c (g := g) (h := g) rfl rfl rfl rfl rfl hsh, Ila_c (g := g) (h := g) rfl rfl hla⟩
             · subst hh; rfl
             · subst hh; rfl)
          | (refine ⟨congrArg (fun z => some (vI z)) ?_, ?_, ?_, ?_⟩
             · omega
             · subst hh; exact ⟨⟨hS, hR, h6, hP⟩, Isg_c (g := g) (h := g) rfl rfl hsg, Itx_c (g := g) (h := g) rfl rfl rfl rfl htx, Iru_c (g := g) (h := g) (r := r) (by omega) hR (fun _ _ _ => rfl) (fun _ _ _ => rfl) rfl rfl rfl rfl rfl rfl rfl rfl hru, Iwd_c (g := g) (h := g) (by omega) rfl rfl rfl rfl rfl rfl hwd, Inw_c (g := g) (h := g) rfl rfl rfl rfl (fun _ _ _ => rfl) hnw, Ist_c (g := g) (h := g) (r := r) hR rfl rfl (fun _ _ _ => rfl) (fun _ _ _ => rfl) rfl rfl rfl rfl (fun _ _ => rfl) (fun _ _ => rfl) (fun _ _ => rfl) rfl rfl rfl hst, Ish_c (g := g) (h := g) rfl rfl rfl rfl rfl hsh, Ila_c (g := g) (h := g) rfl rfl hla⟩
             · subst hh; rfl
             · subst hh; rfl)
      · refine o_iload (n := 12) rfl rfl rfl ?_
        refine o_i2l (n := 13) rfl rfl ?_
        refine o_ldc2_w (n := 16) rfl rfl ?_
        refine o_ldc2_w (n := 19) rfl rfl ?_
        refine o_invsi (n := 22) rfl rfl rfl rfl rfl rfl (c8_in _ _ _) ?_
        refine o_ifb_ne (n := 25) (t := 28) rfl rfl rfl (fun k22 => ?_) (fun k22 => ?_)
        · refine o_aload_n (n := 29) rfl rfl rfl ?_
          refine o_bipush (n := 31) rfl rfl ?_
          refine o_iload_n (n := 32) rfl rfl rfl ?_
          refine o_iload_n (n := 33) rfl rfl rfl ?_
          refine o_iload_n (n := 34) rfl rfl rfl ?_
          refine o_invi (n := 37) rfl rfl rfl rfl rfl rfl rfl rfl rfl rfl (c8_entryBy hS _ _ _ _ (by omega) (by omega) (by omega) (by omega) (by omega) (by omega) (by omega) (by omega)) ?_
          refine o_istore_5 (n := 39) rfl rfl rfl ?_
          refine o_aload_n (n := 40) rfl rfl rfl ?_
          refine of_8_16 (n := 43) hS rfl rfl ?_
          refine o_sipush (n := 46) rfl rfl ?_
          refine o_bipush (n := 48) rfl rfl ?_
          refine o_iload_n (n := 49) rfl rfl rfl ?_
          refine o_imul (n := 50) rfl rfl (by omega) ?_
          refine o_iadd (n := 51) rfl rfl (by omega) ?_
          refine o_iconst (n := 52) rfl rfl ?_
          refine o_iload_n (n := 53) rfl rfl rfl ?_
          refine o_imul (n := 54) rfl rfl (by omega) ?_
          refine o_iadd (n := 55) rfl rfl (by omega) ?_
          refine o_iload_n (n := 56) rfl rfl rfl ?_
          refine o_iadd (n := 57) rfl rfl (by omega) ?_
          refine o_iload (n := 59) rfl rfl rfl ?_
          refine o_iast (n := 60) (L := 324) rfl rfl rfl rfl rfl (by omega) (by omega) ?_
          refine o_iload (n := 62) rfl rfl rfl ?_
          refine o_iret rfl rfl ?_
          first
            | (exfalso; omega; done)
            | (refine ⟨rfl, ?_, ?_, ?_⟩
               · subst hh; exact ⟨⟨hS, hR, h6, hP⟩, Isg_c (g := g) (h := g) rfl rfl hsg, Itx_c (g := g) (h := g) rfl rfl rfl rfl htx, Iru_c (g := g) (h := g) (r := r) (by omega) hR (fun _ _ _ => rfl) (fun _ _ _ => rfl) rfl rfl rfl rfl rfl rfl rfl rfl hru, Iwd_c (g := g) (h := g) (by omega) rfl rfl rfl rfl rfl rfl hwd, Inw_c (g := gset g 9 0 (a * 9 + b * 3 + d) v) (h := gset g 26 0 (288 + 9 * a + 3 * b + d) v) rfl rfl rfl rfl (fun _ _ _ => rfl) (Inw_set (by omega) (by omega) (by omega) (by omega) (by omega) (by omega) (by omega) (by omega) hnw), Ist_c (g := g) (h := g) (r := r) hR rfl rfl (fun _ _ _ => rfl) (fun q s z => (gset_k rfl).trans (gset_i (by omega))) rfl rfl rfl rfl (fun _ _ => rfl) (fun _ _ => rfl) (fun q z => (gset_s (by omega)).trans (gset_k rfl)) rfl rfl rfl hst, Ish_c (g := g) (h := g) rfl rfl rfl rfl rfl hsh, Ila_c (g := g) (h := g) rfl rfl hla⟩
               · subst hh; rfl
               · subst hh; rfl)
            | (refine ⟨congrArg (fun z => some (vI z)) ?_, ?_, ?_, ?_⟩
               · rw [nw_e (h := h) hJ.2.2.2.2.2.1 (by omega) (by omega) (by omega) (by omega) (by omega) (by omega)]
               · subst hh; exact ⟨⟨hS, hR, h6, hP⟩, Isg_c (g := g) (h := g) rfl rfl hsg, Itx_c (g := g) (h := g) rfl rfl rfl rfl htx, Iru_c (g := g) (h := g) (r := r) (by omega) hR (fun _ _ _ => rfl) (fun _ _ _ => rfl) rfl rfl rfl rfl rfl rfl rfl rfl hru, Iwd_c (g := g) (h := g) (by omega) rfl rfl rfl rfl rfl rfl hwd, Inw_c (g := gset g 9 0 (a * 9 + b * 3 + d) v) (h := gset g 26 0 (288 + 9 * a + 3 * b + d) v) rfl rfl rfl rfl (fun _ _ _ => rfl) (Inw_set (by omega) (by omega) (by omega) (by omega) (by omega) (by omega) (by omega) (by omega) hnw), Ist_c (g := g) (h := g) (r := r) hR rfl rfl (fun _ _ _ => rfl) (fun q s z => (gset_k rfl).trans (gset_i (by omega))) rfl rfl rfl rfl (fun _ _ => rfl) (fun _ _ => rfl) (fun q z => (gset_s (by omega)).trans (gset_k rfl)) rfl rfl rfl hst, Ish_c (g := g) (h := g) rfl rfl rfl rfl rfl hsh, Ila_c (g := g) (h := g) rfl rfl hla⟩
               · subst hh; rfl
               · subst hh; rfl)
        · refine o_bipush (n := 27) rfl rfl ?_
          refine o_iret rfl rfl ?_
          first
            | (exfalso; omega; done)
            | (refine ⟨rfl, ?_, ?_, ?_⟩
               · subst hh; exact ⟨⟨hS, hR, h6, hP⟩, Isg_c (g := g) (h := g) rfl rfl hsg, Itx_c (g := g) (h := g) rfl rfl rfl rfl htx, Iru_c (g := g) (h := g) (r := r) (by omega) hR (fun _ _ _ => rfl) (fun _ _ _ => rfl) rfl rfl rfl rfl rfl rfl rfl rfl hru, Iwd_c (g := g) (h := g) (by omega) rfl rfl rfl rfl rfl rfl hwd, Inw_c (g := g) (h := g) rfl rfl rfl rfl (fun _ _ _ => rfl) hnw, Ist_c (g := g) (h := g) (r := r) hR rfl rfl (fun _ _ _ => rfl) (fun _ _ _ => rfl) rfl rfl rfl rfl (fun _ _ => rfl) (fun _ _ => rfl) (fun _ _ => rfl) rfl rfl rfl hst, Ish_c (g := g) (h := g) rfl rfl rfl rfl rfl hsh, Ila_c (g := g) (h := g) rfl rfl hla⟩
               · subst hh; rfl
               · subst hh; rfl)
            | (refine ⟨congrArg (fun z => some (vI z)) ?_, ?_, ?_, ?_⟩
               · omega
               · subst hh; exact ⟨⟨hS, hR, h6, hP⟩, Isg_c (g := g) (h := g) rfl rfl hsg, Itx_c (g := g) (h := g) rfl rfl rfl rfl htx, Iru_c (g := g) (h := g) (r := r) (by omega) hR (fun _ _ _ => rfl) (fun _ _ _ => rfl) rfl rfl rfl rfl rfl rfl rfl rfl hru, Iwd_c (g := g) (h := g) (by omega) rfl rfl rfl rfl rfl rfl hwd, Inw_c (g := g) (h := g) rfl rfl rfl rfl (fun _ _ _ => rfl) hnw, Ist_c (g := g) (h := g) (r := r) hR rfl rfl (fun _ _ _ => rfl) (fun _ _ _ => rfl) rfl rfl rfl rfl (fun _ _ => rfl) (fun _ _ => rfl) (fun _ _ => rfl) rfl rfl rfl hst, Ish_c (g := g) (h := g) rfl rfl rfl rfl rfl hsh, Ila_c (g := g) (h := g) rfl rfl hla⟩
               · subst hh; rfl
               · subst hh; rfl)
