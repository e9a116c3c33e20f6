/-! the law runs to its end. Written by wip/gen/gen70.py -/
theorem ex_s {n m pc : Nat} {ls st : List AV} {g r : GI} {N : Nat} {e : EI} {pc' : Nat} {ls' st' : List AV} {g' r' : GI} {N' : Nat} (h1 : am_code m pc = some e) (h2 : am_ret e.1 (am_rt m) st = none) (h3 : am_cal e.1 e.2.2.2.1 e.2.2.2.2.1 e.2.2.2.2.2 N st = none) (h4 : am_step e pc ls st g r N = some (pc', ls', st', g', r', N')) : am_ex (n + 1) m pc ls st g r N = am_ex n m pc' ls' st' g' r' N' := by
  rw [am_ex, h1]
  dsimp only
  rw [h2]
  dsimp only
  rw [h3]
  dsimp only
  rw [h4]
theorem ex_c {n m pc : Nat} {ls st : List AV} {g r : GI} {N : Nat} {e : EI} {as rest : List AV} {v : Option AV} {g' r' : GI} {N' : Nat} (h1 : am_code m pc = some e) (h2 : am_ret e.1 (am_rt m) st = none) (h3 : am_cal e.1 e.2.2.2.1 e.2.2.2.2.1 e.2.2.2.2.2 N st = some (as, rest)) (h4 : am_ex n e.2.2.2.1 0 (am_ini e.2.2.2.1 as) [] g r N = some (v, g', r', N')) : am_ex (n + 1) m pc ls st g r N = am_ex n m (pc + 3) ls (am_psh v rest) g' r' N' := by
  rw [am_ex, h1]
  dsimp only
  rw [h2]
  dsimp only
  rw [h3]
  dsimp only
  rw [h4]
theorem gs_pt {L : Nat} {xs : Nat → Int32} : am_gs L xs = pt (am_gs L xs) am_g0 := by
  funext k i s
  unfold pt
  by_cases e : k < 34
  · rw [if_pos e]
    unfold am_gs am_g0
    rw [if_neg (by omega), if_neg (by omega)]
  · rw [if_neg e]
theorem law_pre {F : Nat} {g r A1 A2 R1 R2 : GI} {x : Option AV × GI × GI × Nat} (k1 : am_ex (F + 7) 44 0 (am_ini 44 [vR 7 0]) [] (gfil g 7 0 0) (gfil r 7 0 (-1)) 1 = some (none, A1, R1, 90)) (k2 : am_ex (F + 3) 107 0 (am_ini 107 [vR 8 0]) [] (gfil A1 8 0 0) (gfil R1 8 0 (-1)) 91 = some (none, A2, R2, 108)) (k3 : am_ex F 194 18 [vR 34 0, vR 7 0, vR 8 0, vI 0] [] A2 R2 108 = some x) : am_ex (F + 10) 194 0 [vR 34 0, vN, vN, vN] [] g r 0 = some x := by
  have s1 : am_ex (F + 9 + 1) 194 0 [vR 34 0, vN, vN, vN] [] g r 0 = am_ex (F + 9) 194 3 [vR 34 0, vN, vN, vN] [vR 7 0] (gfil g 7 0 0) (gfil r 7 0 (-1)) 1 := ex_s rfl rfl rfl rfl
  have s2 : am_ex (F + 8 + 1) 194 3 [vR 34 0, vN, vN, vN] [vR 7 0] (gfil g 7 0 0) (gfil r 7 0 (-1)) 1 = am_ex (F + 8) 194 4 [vR 34 0, vN, vN, vN] [vR 7 0, vR 7 0] (gfil g 7 0 0) (gfil r 7 0 (-1)) 1 := ex_s rfl rfl rfl rfl
  have s3 : am_ex (F + 7 + 1) 194 4 [vR 34 0, vN, vN, vN] [vR 7 0, vR 7 0] (gfil g 7 0 0) (gfil r 7 0 (-1)) 1 = am_ex (F + 7) 194 7 [vR 34 0, vN, vN, vN] [vR 7 0] A1 R1 90 := ex_c (as := [vR 7 0]) (rest := [vR 7 0]) (v := none) rfl rfl rfl k1
  have s4 : am_ex (F + 6 + 1) 194 7 [vR 34 0, vN, vN, vN] [vR 7 0] A1 R1 90 = am_ex (F + 6) 194 8 [vR 34 0, vR 7 0, vN, vN] [] A1 R1 90 := ex_s rfl rfl rfl rfl
  have s5 : am_ex (F + 5 + 1) 194 8 [vR 34 0, vR 7 0, vN, vN] [] A1 R1 90 = am_ex (F + 5) 194 11 [vR 34 0, vR 7 0, vN, vN] [vR 8 0] (gfil A1 8 0 0) (gfil R1 8 0 (-1)) 91 := ex_s rfl rfl rfl rfl
  have s6 : am_ex (F + 4 + 1) 194 11 [vR 34 0, vR 7 0, vN, vN] [vR 8 0] (gfil A1 8 0 0) (gfil R1 8 0 (-1)) 91 = am_ex (F + 4) 194 12 [vR 34 0, vR 7 0, vN, vN] [vR 8 0, vR 8 0] (gfil A1 8 0 0) (gfil R1 8 0 (-1)) 91 := ex_s rfl rfl rfl rfl
  have s7 : am_ex (F + 3 + 1) 194 12 [vR 34 0, vR 7 0, vN, vN] [vR 8 0, vR 8 0] (gfil A1 8 0 0) (gfil R1 8 0 (-1)) 91 = am_ex (F + 3) 194 15 [vR 34 0, vR 7 0, vN, vN] [vR 8 0] A2 R2 108 := ex_c (as := [vR 8 0]) (rest := [vR 8 0]) (v := none) rfl rfl rfl k2
  have s8 : am_ex (F + 2 + 1) 194 15 [vR 34 0, vR 7 0, vN, vN] [vR 8 0] A2 R2 108 = am_ex (F + 2) 194 16 [vR 34 0, vR 7 0, vR 8 0, vN] [] A2 R2 108 := ex_s rfl rfl rfl rfl
  have s9 : am_ex (F + 1 + 1) 194 16 [vR 34 0, vR 7 0, vR 8 0, vN] [] A2 R2 108 = am_ex (F + 1) 194 17 [vR 34 0, vR 7 0, vR 8 0, vN] [vI 0] A2 R2 108 := ex_s rfl rfl rfl rfl
  have s10 : am_ex (F + 1) 194 17 [vR 34 0, vR 7 0, vR 8 0, vN] [vI 0] A2 R2 108 = am_ex F 194 18 [vR 34 0, vR 7 0, vR 8 0, vI 0] [] A2 R2 108 := ex_s rfl rfl rfl rfl
  exact s1.trans (s2.trans (s3.trans (s4.trans (s5.trans (s6.trans (s7.trans (s8.trans (s9.trans (s10.trans k3)))))))))
theorem law_run1 {L : Nat} {xs : Nat → Int32} (hL : L ≤ 3072) {F0 : Nat} {G1 R1 G2 R2 : GI} (h1 : am_ex2 F0 44 0 (am_ini 44 [vR 7 0]) [] (gfil am_g0 7 0 0) (gfil am_r0 7 0 (-1)) 1 = some (none, G1, R1, 90)) (h2 : am_ex2 F0 107 0 (am_ini 107 [vR 8 0]) [] (gfil G1 8 0 0) (gfil R1 8 0 (-1)) 91 = some (none, G2, R2, 108)) (h3 : cq G2 R2 = true) : ∃ n g' r' N', am_ex n 194 0 [vR 34 0, vN, vN, vN] [] (am_gs L xs) am_rs 0 = some (some (vI 1), g', r', N') := by
  have k1 := ex2_pt (s := am_gs L xs) h1
  have k2 := ex2_pt (s := am_gs L xs) h2
  rw [← pt_fil (by decide)] at k1 k2
  have e34 : pt (am_gs L xs) G2 34 = am_gs L xs 34 := pt_o (by decide)
  have e35 : pt (am_gs L xs) G2 35 0 0 = (L : Int) := by rw [pt_o (by decide)]; rfl
  have I0 : Iv 0 (pt (am_gs L xs) G2) (pt (am_gs L xs) G2) R2 := by
    have i := Iv_start h3
    exact Iv_G (Int.le_refl _) (fun k hk => pt_r (by omega)) ⟨fun k hk _ => pt_r (by omega), fun s _ => by rw [pt_r (by decide)]⟩ (fun _ _ => rfl) i.1.2.2.1 i
  obtain ⟨nL, v, g', r', hx, hv⟩ := law_loop (T := (L : Int)) (by omega) (by omega) L 0 0 (pt (am_gs L xs) G2) R2 (by omega) (by omega) (by omega) (by omega) e35 (fun j => by
    rw [e34]
    exact (am_gsok (xs := xs) hL 34 0 j).2 (by decide)) I0
  subst hv
  have k1' := am_mono' (show F0 ≤ nL + F0 + 7 by omega) k1
  have k2' := am_mono' (show F0 ≤ nL + F0 + 3 by omega) k2
  have k3' := am_mono' (show nL ≤ nL + F0 by omega) hx
  refine ⟨nL + F0 + 10, g', r', NA, ?_⟩
  rw [gs_pt]
  exact law_pre k1' k2' k3'
theorem law_run (L : Nat) (xs : Nat → Int32) (hL : L ≤ 3072) : ∃ n g' r' N', am_ex n 194 0 [vR 34 0, vN, vN, vN] [] (am_gs L xs) am_rs 0 = some (some (vI 1), g', r', N') := by
  obtain ⟨G1, R1, h1, G2, R2, h2, h3⟩ := mkr_of mkr_ok
  unfold mkr_c1 at h1
  exact law_run1 hL h1 h2 h3
