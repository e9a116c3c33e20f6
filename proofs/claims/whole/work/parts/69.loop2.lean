/-! the law's loop: every call answers alike. Written by wip/gen/gen69.py -/
theorem law_loop {T : Int} (hT : T ≤ 3072) (T0 : 0 ≤ T) : ∀ (n : Nat) (i c : Int) (g r : GI), 0 ≤ i → 0 ≤ c → i = 6 * c → T < i + 6 + 6 * n → g 35 0 0 = T → (∀ j, inI (g 34 0 j)) → Iv c g g r → Ou 194 18 [vR 34 0, vR 7 0, vR 8 0, vI i] [] g r (fun x _ _ => x = some (vI 1)) := by
  intro n
  induction n with
  | zero =>
    intro i c g r i0 c0 ic hn e35 hin hI
    refine o_iload_n (n := 19) rfl rfl rfl ?_
    refine o_aload_n (n := 20) rfl rfl rfl ?_
    refine o_salen (n := 21) rfl rfl ?_
    refine o_bipush (n := 23) rfl rfl ?_
    refine o_isub (n := 24) rfl rfl (by omega) ?_
    refine o_icmp_gt (n := 27) (t := 1207) rfl rfl rfl (fun q24 => ?_) (fun q24 => (by exfalso; omega))
    refine o_iconst (n := 1208) rfl rfl ?_
    refine o_zret rfl rfl (by omega) ?_
    rfl
  | succ n ih =>
    intro i c g r i0 c0 ic hn e35 hin hI
    refine o_iload_n (n := 19) rfl rfl rfl ?_
    refine o_aload_n (n := 20) rfl rfl rfl ?_
    refine o_salen (n := 21) rfl rfl ?_
    refine o_bipush (n := 23) rfl rfl ?_
    refine o_isub (n := 24) rfl rfl (by omega) ?_
    refine o_icmp_gt (n := 27) (t := 1207) rfl rfl rfl (fun q24 => ?_) (fun q24 => ?_)
    · refine o_iconst (n := 1208) rfl rfl ?_
      refine o_zret rfl rfl (by omega) ?_
      rfl
    · refine o_aload_n (n := 28) rfl rfl rfl ?_
      refine o_iload_n (n := 29) rfl rfl rfl ?_
      refine o_sald (n := 30) rfl rfl (by omega) (by omega) ?_
      refine o_bipush (n := 32) rfl rfl ?_
      refine o_iand (n := 33) rfl rfl ?_
      refine o_tabC (td := 1201) rfl rfl (fun q33 => ?_) (fun j hj q33 => ?_)
      · refine o_iinc_3 (n := 1204) rfl rfl rfl (by omega) ?_
        refine o_goto (t := 18) rfl rfl ?_
        first
          | exact ih (i + 6) (c + 1) g2 r2 (by omega) (by omega) (by omega) (by omega) (by rw [b35]; exact e35) (by rw [b34]; exact hin) hI2
          | exact ih (i + 6) (c + 1) g r (by omega) (by omega) (by omega) (by omega) e35 hin (Iv_up hI)
      · rcases (show j = 0 ∨ j = 1 ∨ j = 2 ∨ j = 3 ∨ j = 4 ∨ j = 5 ∨ j = 6 ∨ j = 7 ∨ j = 8 ∨ j = 9 ∨ j = 10 ∨ j = 11 ∨ j = 12 ∨ j = 13 ∨ j = 14 ∨ j = 15 ∨ j = 16 ∨ j = 17 ∨ j = 18 ∨ j = 19 ∨ j = 20 ∨ j = 21 ∨ j = 22 ∨ j = 23 ∨ j = 24 ∨ j = 25 ∨ j = 26 ∨ j = 27 ∨ j = 28 ∨ j = 29 ∨ j = 30 ∨ j = 31 ∨ j = 32 ∨ j = 33 ∨ j = 34 ∨ j = 35 by omega) with ej | ej | ej | ej | ej | ej | ej | ej | ej | ej | ej | ej | ej | ej | ej | ej | ej | ej | ej | ej | ej | ej | ej | ej | ej | ej | ej | ej | ej | ej | ej | ej | ej | ej | ej | ej <;> subst ej
        · change Ou _ 192 _ _ _ _ _
          refine o_aload_n (n := 193) rfl rfl rfl ?_
          refine o_aload_n (n := 194) rfl rfl rfl ?_
          refine o_iload_n (n := 195) rfl rfl rfl ?_
          refine o_iconst (n := 196) rfl rfl ?_
          refine o_iadd (n := 197) rfl rfl (by omega) ?_
          refine o_sald (n := 198) rfl rfl (by omega) (by omega) ?_
          obtain ⟨x, g1, r1, g2, r2, hc1, ⟨a34, a35⟩, hc2, hI2, b34, b35⟩ := lawI (p_signs (g 34 0 (i + 1))) (by decide) rfl c0 (by omega) hI
          have e35b : g1 35 0 0 = T := by rw [a35]; exact e35
          refine o_invi (n := 201) rfl rfl rfl rfl rfl rfl rfl rfl rfl rfl (hc1) ?_
          refine o_aload_n (n := 202) rfl rfl rfl ?_
          refine o_aload_n (n := 203) rfl rfl rfl ?_
          refine o_iload_n (n := 204) rfl rfl rfl ?_
          refine o_iconst (n := 205) rfl rfl ?_
          refine o_iadd (n := 206) rfl rfl (by omega) ?_
          refine o_sald (n := 207) rfl rfl (by omega) (by omega) ?_
          rw [a34]
          refine o_invi (n := 210) rfl rfl rfl rfl rfl rfl rfl rfl rfl rfl (hc2) ?_
          refine o_icmp_eq (n := 213) (t := 1201) rfl rfl rfl (fun q210 => ?_) (fun q210 => (absurd rfl q210))
          refine o_iinc_3 (n := 1204) rfl rfl rfl (by omega) ?_
          refine o_goto (t := 18) rfl rfl ?_
          first
            | exact ih (i + 6) (c + 1) g2 r2 (by omega) (by omega) (by omega) (by omega) (by rw [b35]; exact e35) (by rw [b34]; exact hin) hI2
            | exact ih (i + 6) (c + 1) g r (by omega) (by omega) (by omega) (by omega) e35 hin (Iv_up hI)
        · change Ou _ 215 _ _ _ _ _
          refine o_aload_n (n := 216) rfl rfl rfl ?_
          refine o_aload_n (n := 217) rfl rfl rfl ?_
          refine o_iload_n (n := 218) rfl rfl rfl ?_
          refine o_iconst (n := 219) rfl rfl ?_
          refine o_iadd (n := 220) rfl rfl (by omega) ?_
          refine o_sald (n := 221) rfl rfl (by omega) (by omega) ?_
          obtain ⟨x, g1, r1, g2, r2, hc1, ⟨a34, a35⟩, hc2, hI2, b34, b35⟩ := lawI (p_type (g 34 0 (i + 1))) (by decide) rfl c0 (by omega) hI
          have e35b : g1 35 0 0 = T := by rw [a35]; exact e35
          refine o_invi (n := 224) rfl rfl rfl rfl rfl rfl rfl rfl rfl rfl (hc1) ?_
          refine o_aload_n (n := 225) rfl rfl rfl ?_
          refine o_aload_n (n := 226) rfl rfl rfl ?_
          refine o_iload_n (n := 227) rfl rfl rfl ?_
          refine o_iconst (n := 228) rfl rfl ?_
          refine o_iadd (n := 229) rfl rfl (by omega) ?_
          refine o_sald (n := 230) rfl rfl (by omega) (by omega) ?_
          rw [a34]
          refine o_invi (n := 233) rfl rfl rfl rfl rfl rfl rfl rfl rfl rfl (hc2) ?_
          refine o_icmp_eq (n := 236) (t := 1201) rfl rfl rfl (fun q233 => ?_) (fun q233 => (absurd rfl q233))
          refine o_iinc_3 (n := 1204) rfl rfl rfl (by omega) ?_
          refine o_goto (t := 18) rfl rfl ?_
          first
            | exact ih (i + 6) (c + 1) g2 r2 (by omega) (by omega) (by omega) (by omega) (by rw [b35]; exact e35) (by rw [b34]; exact hin) hI2
            | exact ih (i + 6) (c + 1) g r (by omega) (by omega) (by omega) (by omega) e35 hin (Iv_up hI)
        · change Ou _ 238 _ _ _ _ _
          refine o_aload_n (n := 239) rfl rfl rfl ?_
          obtain ⟨x, g1, r1, g2, r2, hc1, ⟨a34, a35⟩, hc2, hI2, b34, b35⟩ := lawI (p_wipe ) (by decide) rfl c0 (by omega) hI
          have e35b : g1 35 0 0 = T := by rw [a35]; exact e35
          refine o_invi (n := 242) rfl rfl rfl rfl rfl rfl rfl rfl rfl rfl (hc1) ?_
          refine o_aload_n (n := 243) rfl rfl rfl ?_
          refine o_invi (n := 246) rfl rfl rfl rfl rfl rfl rfl rfl rfl rfl (hc2) ?_
          refine o_icmp_eq (n := 249) (t := 1201) rfl rfl rfl (fun q246 => ?_) (fun q246 => (absurd rfl q246))
          refine o_iinc_3 (n := 1204) rfl rfl rfl (by omega) ?_
          refine o_goto (t := 18) rfl rfl ?_
          first
            | exact ih (i + 6) (c + 1) g2 r2 (by omega) (by omega) (by omega) (by omega) (by rw [b35]; exact e35) (by rw [b34]; exact hin) hI2
            | exact ih (i + 6) (c + 1) g r (by omega) (by omega) (by omega) (by omega) e35 hin (Iv_up hI)
        · change Ou _ 251 _ _ _ _ _
          refine o_aload_n (n := 252) rfl rfl rfl ?_
          refine o_aload_n (n := 253) rfl rfl rfl ?_
          refine o_iload_n (n := 254) rfl rfl rfl ?_
          refine o_iconst (n := 255) rfl rfl ?_
          refine o_iadd (n := 256) rfl rfl (by omega) ?_
          refine o_sald (n := 257) rfl rfl (by omega) (by omega) ?_
          obtain ⟨x, g1, r1, g2, r2, hc1, ⟨a34, a35⟩, hc2, hI2, b34, b35⟩ := lawI (p_fault (g 34 0 (i + 1))) (by decide) rfl c0 (by omega) hI
          have e35b : g1 35 0 0 = T := by rw [a35]; exact e35
          refine o_invi (n := 260) rfl rfl rfl rfl rfl rfl rfl rfl rfl rfl (hc1) ?_
          refine o_aload_n (n := 261) rfl rfl rfl ?_
          refine o_aload_n (n := 262) rfl rfl rfl ?_
          refine o_iload_n (n := 263) rfl rfl rfl ?_
          refine o_iconst (n := 264) rfl rfl ?_
          refine o_iadd (n := 265) rfl rfl (by omega) ?_
          refine o_sald (n := 266) rfl rfl (by omega) (by omega) ?_
          rw [a34]
          refine o_invi (n := 269) rfl rfl rfl rfl rfl rfl rfl rfl rfl rfl (hc2) ?_
          refine o_icmp_eq (n := 272) (t := 1201) rfl rfl rfl (fun q269 => ?_) (fun q269 => (absurd rfl q269))
          refine o_iinc_3 (n := 1204) rfl rfl rfl (by omega) ?_
          refine o_goto (t := 18) rfl rfl ?_
          first
            | exact ih (i + 6) (c + 1) g2 r2 (by omega) (by omega) (by omega) (by omega) (by rw [b35]; exact e35) (by rw [b34]; exact hin) hI2
            | exact ih (i + 6) (c + 1) g r (by omega) (by omega) (by omega) (by omega) e35 hin (Iv_up hI)
        · change Ou _ 274 _ _ _ _ _
          refine o_aload_n (n := 275) rfl rfl rfl ?_
          obtain ⟨x, g1, r1, g2, r2, hc1, ⟨a34, a35⟩, hc2, hI2, b34, b35⟩ := lawI (p_rule ) (by decide) rfl c0 (by omega) hI
          have e35b : g1 35 0 0 = T := by rw [a35]; exact e35
          refine o_invi (n := 278) rfl rfl rfl rfl rfl rfl rfl rfl rfl rfl (hc1) ?_
          refine o_aload_n (n := 279) rfl rfl rfl ?_
          refine o_invi (n := 282) rfl rfl rfl rfl rfl rfl rfl rfl rfl rfl (hc2) ?_
          refine o_icmp_eq (n := 285) (t := 1201) rfl rfl rfl (fun q282 => ?_) (fun q282 => (absurd rfl q282))
          refine o_iinc_3 (n := 1204) rfl rfl rfl (by omega) ?_
          refine o_goto (t := 18) rfl rfl ?_
          first
            | exact ih (i + 6) (c + 1) g2 r2 (by omega) (by omega) (by omega) (by omega) (by rw [b35]; exact e35) (by rw [b34]; exact hin) hI2
            | exact ih (i + 6) (c + 1) g r (by omega) (by omega) (by omega) (by omega) e35 hin (Iv_up hI)
        · change Ou _ 287 _ _ _ _ _
          refine o_aload_n (n := 288) rfl rfl rfl ?_
          refine o_aload_n (n := 289) rfl rfl rfl ?_
          refine o_iload_n (n := 290) rfl rfl rfl ?_
          refine o_iconst (n := 291) rfl rfl ?_
          refine o_iadd (n := 292) rfl rfl (by omega) ?_
          refine o_sald (n := 293) rfl rfl (by omega) (by omega) ?_
          obtain ⟨x, g1, r1, g2, r2, hc1, ⟨a34, a35⟩, hc2, hI2, b34, b35⟩ := lawI (p_drop (g 34 0 (i + 1))) (by decide) rfl c0 (by omega) hI
          have e35b : g1 35 0 0 = T := by rw [a35]; exact e35
          refine o_invi (n := 296) rfl rfl rfl rfl rfl rfl rfl rfl rfl rfl (hc1) ?_
          refine o_aload_n (n := 297) rfl rfl rfl ?_
          refine o_aload_n (n := 298) rfl rfl rfl ?_
          refine o_iload_n (n := 299) rfl rfl rfl ?_
          refine o_iconst (n := 300) rfl rfl ?_
          refine o_iadd (n := 301) rfl rfl (by omega) ?_
          refine o_sald (n := 302) rfl rfl (by omega) (by omega) ?_
          rw [a34]
          refine o_invi (n := 305) rfl rfl rfl rfl rfl rfl rfl rfl rfl rfl (hc2) ?_
          refine o_icmp_eq (n := 308) (t := 1201) rfl rfl rfl (fun q305 => ?_) (fun q305 => (absurd rfl q305))
          refine o_iinc_3 (n := 1204) rfl rfl rfl (by omega) ?_
          refine o_goto (t := 18) rfl rfl ?_
          first
            | exact ih (i + 6) (c + 1) g2 r2 (by omega) (by omega) (by omega) (by omega) (by rw [b35]; exact e35) (by rw [b34]; exact hin) hI2
            | exact ih (i + 6) (c + 1) g r (by omega) (by omega) (by omega) (by omega) e35 hin (Iv_up hI)
        · change Ou _ 310 _ _ _ _ _
          refine o_aload_n (n := 311) rfl rfl rfl ?_
          refine o_aload_n (n := 312) rfl rfl rfl ?_
          refine o_iload_n (n := 313) rfl rfl rfl ?_
          refine o_iconst (n := 314) rfl rfl ?_
          refine o_iadd (n := 315) rfl rfl (by omega) ?_
          refine o_sald (n := 316) rfl rfl (by omega) (by omega) ?_
          refine o_aload_n (n := 317) rfl rfl rfl ?_
          refine o_iload_n (n := 318) rfl rfl rfl ?_
          refine o_iconst (n := 319) rfl rfl ?_
          refine o_iadd (n := 320) rfl rfl (by omega) ?_
          refine o_sald (n := 321) rfl rfl (by omega) (by omega) ?_
          refine o_aload_n (n := 322) rfl rfl rfl ?_
          refine o_iload_n (n := 323) rfl rfl rfl ?_
          refine o_iconst (n := 324) rfl rfl ?_
          refine o_iadd (n := 325) rfl rfl (by omega) ?_
          refine o_sald (n := 326) rfl rfl (by omega) (by omega) ?_
          obtain ⟨x, g1, r1, g2, r2, hc1, ⟨a34, a35⟩, hc2, hI2, b34, b35⟩ := lawI (p_side (g 34 0 (i + 1)) (g 34 0 (i + 2)) (g 34 0 (i + 3))) (by decide) rfl c0 (by omega) hI
          have e35b : g1 35 0 0 = T := by rw [a35]; exact e35
          refine o_invi (n := 329) rfl rfl rfl rfl rfl rfl rfl rfl rfl rfl (hc1) ?_
          refine o_aload_n (n := 330) rfl rfl rfl ?_
          refine o_aload_n (n := 331) rfl rfl rfl ?_
          refine o_iload_n (n := 332) rfl rfl rfl ?_
          refine o_iconst (n := 333) rfl rfl ?_
          refine o_iadd (n := 334) rfl rfl (by omega) ?_
          refine o_sald (n := 335) rfl rfl (by omega) (by omega) ?_
          rw [a34]
          refine o_aload_n (n := 336) rfl rfl rfl ?_
          refine o_iload_n (n := 337) rfl rfl rfl ?_
          refine o_iconst (n := 338) rfl rfl ?_
          refine o_iadd (n := 339) rfl rfl (by omega) ?_
          refine o_sald (n := 340) rfl rfl (by omega) (by omega) ?_
          rw [a34]
          refine o_aload_n (n := 341) rfl rfl rfl ?_
          refine o_iload_n (n := 342) rfl rfl rfl ?_
          refine o_iconst (n := 343) rfl rfl ?_
          refine o_iadd (n := 344) rfl rfl (by omega) ?_
          refine o_sald (n := 345) rfl rfl (by omega) (by omega) ?_
          rw [a34]
          refine o_invi (n := 348) rfl rfl rfl rfl rfl rfl rfl rfl rfl rfl (hc2) ?_
          refine o_icmp_eq (n := 351) (t := 1201) rfl rfl rfl (fun q348 => ?_) (fun q348 => (absurd rfl q348))
          refine o_iinc_3 (n := 1204) rfl rfl rfl (by omega) ?_
          refine o_goto (t := 18) rfl rfl ?_
          first
            | exact ih (i + 6) (c + 1) g2 r2 (by omega) (by omega) (by omega) (by omega) (by rw [b35]; exact e35) (by rw [b34]; exact hin) hI2
            | exact ih (i + 6) (c + 1) g r (by omega) (by omega) (by omega) (by omega) e35 hin (Iv_up hI)
        · change Ou _ 353 _ _ _ _ _
          refine o_aload_n (n := 354) rfl rfl rfl ?_
          refine o_aload_n (n := 355) rfl rfl rfl ?_
          refine o_iload_n (n := 356) rfl rfl rfl ?_
          refine o_iconst (n := 357) rfl rfl ?_
          refine o_iadd (n := 358) rfl rfl (by omega) ?_
          refine o_sald (n := 359) rfl rfl (by omega) (by omega) ?_
          refine o_aload_n (n := 360) rfl rfl rfl ?_
          refine o_iload_n (n := 361) rfl rfl rfl ?_
          refine o_iconst (n := 362) rfl rfl ?_
          refine o_iadd (n := 363) rfl rfl (by omega) ?_
          refine o_sald (n := 364) rfl rfl (by omega) (by omega) ?_
          obtain ⟨x, g1, r1, g2, r2, hc1, ⟨a34, a35⟩, hc2, hI2, b34, b35⟩ := lawI (p_info (g 34 0 (i + 1)) (g 34 0 (i + 2))) (by decide) rfl c0 (by omega) hI
          have e35b : g1 35 0 0 = T := by rw [a35]; exact e35
          refine o_invi (n := 367) rfl rfl rfl rfl rfl rfl rfl rfl rfl rfl (hc1) ?_
          refine o_aload_n (n := 368) rfl rfl rfl ?_
          refine o_aload_n (n := 369) rfl rfl rfl ?_
          refine o_iload_n (n := 370) rfl rfl rfl ?_
          refine o_iconst (n := 371) rfl rfl ?_
          refine o_iadd (n := 372) rfl rfl (by omega) ?_
          refine o_sald (n := 373) rfl rfl (by omega) (by omega) ?_
          rw [a34]
          refine o_aload_n (n := 374) rfl rfl rfl ?_
          refine o_iload_n (n := 375) rfl rfl rfl ?_
          refine o_iconst (n := 376) rfl rfl ?_
          refine o_iadd (n := 377) rfl rfl (by omega) ?_
          refine o_sald (n := 378) rfl rfl (by omega) (by omega) ?_
          rw [a34]
          refine o_invi (n := 381) rfl rfl rfl rfl rfl rfl rfl rfl rfl rfl (hc2) ?_
          refine o_icmp_eq (n := 384) (t := 1201) rfl rfl rfl (fun q381 => ?_) (fun q381 => (absurd rfl q381))
          refine o_iinc_3 (n := 1204) rfl rfl rfl (by omega) ?_
          refine o_goto (t := 18) rfl rfl ?_
          first
            | exact ih (i + 6) (c + 1) g2 r2 (by omega) (by omega) (by omega) (by omega) (by rw [b35]; exact e35) (by rw [b34]; exact hin) hI2
            | exact ih (i + 6) (c + 1) g r (by omega) (by omega) (by omega) (by omega) e35 hin (Iv_up hI)
        · change Ou _ 386 _ _ _ _ _
          refine o_aload_n (n := 387) rfl rfl rfl ?_
          refine o_aload_n (n := 388) rfl rfl rfl ?_
          refine o_iload_n (n := 389) rfl rfl rfl ?_
          refine o_iconst (n := 390) rfl rfl ?_
          refine o_iadd (n := 391) rfl rfl (by omega) ?_
          refine o_sald (n := 392) rfl rfl (by omega) (by omega) ?_
          obtain ⟨x, g1, r1, g2, r2, hc1, ⟨a34, a35⟩, hc2, hI2, b34, b35⟩ := lawI (p_ring (g 34 0 (i + 1))) (by decide) rfl c0 (by omega) hI
          have e35b : g1 35 0 0 = T := by rw [a35]; exact e35
          refine o_invi (n := 395) rfl rfl rfl rfl rfl rfl rfl rfl rfl rfl (hc1) ?_
          refine o_aload_n (n := 396) rfl rfl rfl ?_
          refine o_aload_n (n := 397) rfl rfl rfl ?_
          refine o_iload_n (n := 398) rfl rfl rfl ?_
          refine o_iconst (n := 399) rfl rfl ?_
          refine o_iadd (n := 400) rfl rfl (by omega) ?_
          refine o_sald (n := 401) rfl rfl (by omega) (by omega) ?_
          rw [a34]
          refine o_invi (n := 404) rfl rfl rfl rfl rfl rfl rfl rfl rfl rfl (hc2) ?_
          refine o_icmp_eq (n := 407) (t := 1201) rfl rfl rfl (fun q404 => ?_) (fun q404 => (absurd rfl q404))
          refine o_iinc_3 (n := 1204) rfl rfl rfl (by omega) ?_
          refine o_goto (t := 18) rfl rfl ?_
          first
            | exact ih (i + 6) (c + 1) g2 r2 (by omega) (by omega) (by omega) (by omega) (by rw [b35]; exact e35) (by rw [b34]; exact hin) hI2
            | exact ih (i + 6) (c + 1) g r (by omega) (by omega) (by omega) (by omega) e35 hin (Iv_up hI)
        · change Ou _ 409 _ _ _ _ _
          refine o_aload_n (n := 410) rfl rfl rfl ?_
          refine o_aload_n (n := 411) rfl rfl rfl ?_
          refine o_iload_n (n := 412) rfl rfl rfl ?_
          refine o_iconst (n := 413) rfl rfl ?_
          refine o_iadd (n := 414) rfl rfl (by omega) ?_
          refine o_sald (n := 415) rfl rfl (by omega) (by omega) ?_
          obtain ⟨x, g1, r1, g2, r2, hc1, ⟨a34, a35⟩, hc2, hI2, b34, b35⟩ := lawI (p_size (g 34 0 (i + 1))) (by decide) rfl c0 (by omega) hI
          have e35b : g1 35 0 0 = T := by rw [a35]; exact e35
          refine o_invi (n := 418) rfl rfl rfl rfl rfl rfl rfl rfl rfl rfl (hc1) ?_
          refine o_aload_n (n := 419) rfl rfl rfl ?_
          refine o_aload_n (n := 420) rfl rfl rfl ?_
          refine o_iload_n (n := 421) rfl rfl rfl ?_
          refine o_iconst (n := 422) rfl rfl ?_
          refine o_iadd (n := 423) rfl rfl (by omega) ?_
          refine o_sald (n := 424) rfl rfl (by omega) (by omega) ?_
          rw [a34]
          refine o_invi (n := 427) rfl rfl rfl rfl rfl rfl rfl rfl rfl rfl (hc2) ?_
          refine o_icmp_eq (n := 430) (t := 1201) rfl rfl rfl (fun q427 => ?_) (fun q427 => (absurd rfl q427))
          refine o_iinc_3 (n := 1204) rfl rfl rfl (by omega) ?_
          refine o_goto (t := 18) rfl rfl ?_
          first
            | exact ih (i + 6) (c + 1) g2 r2 (by omega) (by omega) (by omega) (by omega) (by rw [b35]; exact e35) (by rw [b34]; exact hin) hI2
            | exact ih (i + 6) (c + 1) g r (by omega) (by omega) (by omega) (by omega) e35 hin (Iv_up hI)
        · change Ou _ 432 _ _ _ _ _
          refine o_aload_n (n := 433) rfl rfl rfl ?_
          refine o_aload_n (n := 434) rfl rfl rfl ?_
          refine o_iload_n (n := 435) rfl rfl rfl ?_
          refine o_iconst (n := 436) rfl rfl ?_
          refine o_iadd (n := 437) rfl rfl (by omega) ?_
          refine o_sald (n := 438) rfl rfl (by omega) (by omega) ?_
          refine o_aload_n (n := 439) rfl rfl rfl ?_
          refine o_iload_n (n := 440) rfl rfl rfl ?_
          refine o_iconst (n := 441) rfl rfl ?_
          refine o_iadd (n := 442) rfl rfl (by omega) ?_
          refine o_sald (n := 443) rfl rfl (by omega) (by omega) ?_
          refine o_aload_n (n := 444) rfl rfl rfl ?_
          refine o_iload_n (n := 445) rfl rfl rfl ?_
          refine o_iconst (n := 446) rfl rfl ?_
          refine o_iadd (n := 447) rfl rfl (by omega) ?_
          refine o_sald (n := 448) rfl rfl (by omega) (by omega) ?_
          refine o_aload_n (n := 449) rfl rfl rfl ?_
          refine o_iload_n (n := 450) rfl rfl rfl ?_
          refine o_iconst (n := 451) rfl rfl ?_
          refine o_iadd (n := 452) rfl rfl (by omega) ?_
          refine o_sald (n := 453) rfl rfl (by omega) (by omega) ?_
          obtain ⟨x, g1, r1, g2, r2, hc1, ⟨a34, a35⟩, hc2, hI2, b34, b35⟩ := lawI (p_enter (g 34 0 (i + 1)) (g 34 0 (i + 2)) (g 34 0 (i + 3)) (g 34 0 (i + 4))) (by decide) rfl c0 (by omega) hI
          have e35b : g1 35 0 0 = T := by rw [a35]; exact e35
          refine o_invi (n := 456) rfl rfl rfl rfl rfl rfl rfl rfl rfl rfl (hc1) ?_
          refine o_aload_n (n := 457) rfl rfl rfl ?_
          refine o_aload_n (n := 458) rfl rfl rfl ?_
          refine o_iload_n (n := 459) rfl rfl rfl ?_
          refine o_iconst (n := 460) rfl rfl ?_
          refine o_iadd (n := 461) rfl rfl (by omega) ?_
          refine o_sald (n := 462) rfl rfl (by omega) (by omega) ?_
          rw [a34]
          refine o_aload_n (n := 463) rfl rfl rfl ?_
          refine o_iload_n (n := 464) rfl rfl rfl ?_
          refine o_iconst (n := 465) rfl rfl ?_
          refine o_iadd (n := 466) rfl rfl (by omega) ?_
          refine o_sald (n := 467) rfl rfl (by omega) (by omega) ?_
          rw [a34]
          refine o_aload_n (n := 468) rfl rfl rfl ?_
          refine o_iload_n (n := 469) rfl rfl rfl ?_
          refine o_iconst (n := 470) rfl rfl ?_
          refine o_iadd (n := 471) rfl rfl (by omega) ?_
          refine o_sald (n := 472) rfl rfl (by omega) (by omega) ?_
          rw [a34]
          refine o_aload_n (n := 473) rfl rfl rfl ?_
          refine o_iload_n (n := 474) rfl rfl rfl ?_
          refine o_iconst (n := 475) rfl rfl ?_
          refine o_iadd (n := 476) rfl rfl (by omega) ?_
          refine o_sald (n := 477) rfl rfl (by omega) (by omega) ?_
          rw [a34]
          refine o_invi (n := 480) rfl rfl rfl rfl rfl rfl rfl rfl rfl rfl (hc2) ?_
          refine o_icmp_eq (n := 483) (t := 1201) rfl rfl rfl (fun q480 => ?_) (fun q480 => (absurd rfl q480))
          refine o_iinc_3 (n := 1204) rfl rfl rfl (by omega) ?_
          refine o_goto (t := 18) rfl rfl ?_
          first
            | exact ih (i + 6) (c + 1) g2 r2 (by omega) (by omega) (by omega) (by omega) (by rw [b35]; exact e35) (by rw [b34]; exact hin) hI2
            | exact ih (i + 6) (c + 1) g r (by omega) (by omega) (by omega) (by omega) e35 hin (Iv_up hI)
        · change Ou _ 485 _ _ _ _ _
          refine o_aload_n (n := 486) rfl rfl rfl ?_
          refine o_aload_n (n := 487) rfl rfl rfl ?_
          refine o_iload_n (n := 488) rfl rfl rfl ?_
          refine o_iconst (n := 489) rfl rfl ?_
          refine o_iadd (n := 490) rfl rfl (by omega) ?_
          refine o_sald (n := 491) rfl rfl (by omega) (by omega) ?_
          refine o_aload_n (n := 492) rfl rfl rfl ?_
          refine o_iload_n (n := 493) rfl rfl rfl ?_
          refine o_iconst (n := 494) rfl rfl ?_
          refine o_iadd (n := 495) rfl rfl (by omega) ?_
          refine o_sald (n := 496) rfl rfl (by omega) (by omega) ?_
          refine o_aload_n (n := 497) rfl rfl rfl ?_
          refine o_iload_n (n := 498) rfl rfl rfl ?_
          refine o_iconst (n := 499) rfl rfl ?_
          refine o_iadd (n := 500) rfl rfl (by omega) ?_
          refine o_sald (n := 501) rfl rfl (by omega) (by omega) ?_
          obtain ⟨x, g1, r1, g2, r2, hc1, ⟨a34, a35⟩, hc2, hI2, b34, b35⟩ := lawI (p_entry (g 34 0 (i + 1)) (g 34 0 (i + 2)) (g 34 0 (i + 3))) (by decide) rfl c0 (by omega) hI
          have e35b : g1 35 0 0 = T := by rw [a35]; exact e35
          refine o_invi (n := 504) rfl rfl rfl rfl rfl rfl rfl rfl rfl rfl (hc1) ?_
          refine o_aload_n (n := 505) rfl rfl rfl ?_
          refine o_aload_n (n := 506) rfl rfl rfl ?_
          refine o_iload_n (n := 507) rfl rfl rfl ?_
          refine o_iconst (n := 508) rfl rfl ?_
          refine o_iadd (n := 509) rfl rfl (by omega) ?_
          refine o_sald (n := 510) rfl rfl (by omega) (by omega) ?_
          rw [a34]
          refine o_aload_n (n := 511) rfl rfl rfl ?_
          refine o_iload_n (n := 512) rfl rfl rfl ?_
          refine o_iconst (n := 513) rfl rfl ?_
          refine o_iadd (n := 514) rfl rfl (by omega) ?_
          refine o_sald (n := 515) rfl rfl (by omega) (by omega) ?_
          rw [a34]
          refine o_aload_n (n := 516) rfl rfl rfl ?_
          refine o_iload_n (n := 517) rfl rfl rfl ?_
          refine o_iconst (n := 518) rfl rfl ?_
          refine o_iadd (n := 519) rfl rfl (by omega) ?_
          refine o_sald (n := 520) rfl rfl (by omega) (by omega) ?_
          rw [a34]
          refine o_invi (n := 523) rfl rfl rfl rfl rfl rfl rfl rfl rfl rfl (hc2) ?_
          refine o_icmp_eq (n := 526) (t := 1201) rfl rfl rfl (fun q523 => ?_) (fun q523 => (absurd rfl q523))
          refine o_iinc_3 (n := 1204) rfl rfl rfl (by omega) ?_
          refine o_goto (t := 18) rfl rfl ?_
          first
            | exact ih (i + 6) (c + 1) g2 r2 (by omega) (by omega) (by omega) (by omega) (by rw [b35]; exact e35) (by rw [b34]; exact hin) hI2
            | exact ih (i + 6) (c + 1) g r (by omega) (by omega) (by omega) (by omega) e35 hin (Iv_up hI)
        · change Ou _ 528 _ _ _ _ _
          refine o_aload_n (n := 529) rfl rfl rfl ?_
          refine o_aload_n (n := 530) rfl rfl rfl ?_
          refine o_iload_n (n := 531) rfl rfl rfl ?_
          refine o_iconst (n := 532) rfl rfl ?_
          refine o_iadd (n := 533) rfl rfl (by omega) ?_
          refine o_sald (n := 534) rfl rfl (by omega) (by omega) ?_
          refine o_aload_n (n := 535) rfl rfl rfl ?_
          refine o_iload_n (n := 536) rfl rfl rfl ?_
          refine o_iconst (n := 537) rfl rfl ?_
          refine o_iadd (n := 538) rfl rfl (by omega) ?_
          refine o_sald (n := 539) rfl rfl (by omega) (by omega) ?_
          obtain ⟨x, g1, r1, g2, r2, hc1, ⟨a34, a35⟩, hc2, hI2, b34, b35⟩ := lawI (p_read (g 34 0 (i + 1)) (g 34 0 (i + 2))) (by decide) rfl c0 (by omega) hI
          have e35b : g1 35 0 0 = T := by rw [a35]; exact e35
          refine o_invi (n := 542) rfl rfl rfl rfl rfl rfl rfl rfl rfl rfl (hc1) ?_
          refine o_aload_n (n := 543) rfl rfl rfl ?_
          refine o_aload_n (n := 544) rfl rfl rfl ?_
          refine o_iload_n (n := 545) rfl rfl rfl ?_
          refine o_iconst (n := 546) rfl rfl ?_
          refine o_iadd (n := 547) rfl rfl (by omega) ?_
          refine o_sald (n := 548) rfl rfl (by omega) (by omega) ?_
          rw [a34]
          refine o_aload_n (n := 549) rfl rfl rfl ?_
          refine o_iload_n (n := 550) rfl rfl rfl ?_
          refine o_iconst (n := 551) rfl rfl ?_
          refine o_iadd (n := 552) rfl rfl (by omega) ?_
          refine o_sald (n := 553) rfl rfl (by omega) (by omega) ?_
          rw [a34]
          refine o_invi (n := 556) rfl rfl rfl rfl rfl rfl rfl rfl rfl rfl (hc2) ?_
          refine o_icmp_eq (n := 559) (t := 1201) rfl rfl rfl (fun q556 => ?_) (fun q556 => (absurd rfl q556))
          refine o_iinc_3 (n := 1204) rfl rfl rfl (by omega) ?_
          refine o_goto (t := 18) rfl rfl ?_
          first
            | exact ih (i + 6) (c + 1) g2 r2 (by omega) (by omega) (by omega) (by omega) (by rw [b35]; exact e35) (by rw [b34]; exact hin) hI2
            | exact ih (i + 6) (c + 1) g r (by omega) (by omega) (by omega) (by omega) e35 hin (Iv_up hI)
        · change Ou _ 561 _ _ _ _ _
          refine o_aload_n (n := 562) rfl rfl rfl ?_
          obtain ⟨x, g1, r1, g2, r2, hc1, ⟨a34, a35⟩, hc2, hI2, b34, b35⟩ := lawI (p_sound ) (by decide) rfl c0 (by omega) hI
          have e35b : g1 35 0 0 = T := by rw [a35]; exact e35
          refine o_invi (n := 565) rfl rfl rfl rfl rfl rfl rfl rfl rfl rfl (hc1) ?_
          refine o_aload_n (n := 566) rfl rfl rfl ?_
          refine o_invi (n := 569) rfl rfl rfl rfl rfl rfl rfl rfl rfl rfl (hc2) ?_
          refine o_icmp_eq (n := 572) (t := 1201) rfl rfl rfl (fun q569 => ?_) (fun q569 => (absurd rfl q569))
          refine o_iinc_3 (n := 1204) rfl rfl rfl (by omega) ?_
          refine o_goto (t := 18) rfl rfl ?_
          first
            | exact ih (i + 6) (c + 1) g2 r2 (by omega) (by omega) (by omega) (by omega) (by rw [b35]; exact e35) (by rw [b34]; exact hin) hI2
            | exact ih (i + 6) (c + 1) g r (by omega) (by omega) (by omega) (by omega) e35 hin (Iv_up hI)
        · change Ou _ 574 _ _ _ _ _
          refine o_aload_n (n := 575) rfl rfl rfl ?_
          refine o_aload_n (n := 576) rfl rfl rfl ?_
          refine o_iload_n (n := 577) rfl rfl rfl ?_
          refine o_iconst (n := 578) rfl rfl ?_
          refine o_iadd (n := 579) rfl rfl (by omega) ?_
          refine o_sald (n := 580) rfl rfl (by omega) (by omega) ?_
          refine o_aload_n (n := 581) rfl rfl rfl ?_
          refine o_iload_n (n := 582) rfl rfl rfl ?_
          refine o_iconst (n := 583) rfl rfl ?_
          refine o_iadd (n := 584) rfl rfl (by omega) ?_
          refine o_sald (n := 585) rfl rfl (by omega) (by omega) ?_
          refine o_aload_n (n := 586) rfl rfl rfl ?_
          refine o_iload_n (n := 587) rfl rfl rfl ?_
          refine o_iconst (n := 588) rfl rfl ?_
          refine o_iadd (n := 589) rfl rfl (by omega) ?_
          refine o_sald (n := 590) rfl rfl (by omega) (by omega) ?_
          refine o_aload_n (n := 591) rfl rfl rfl ?_
          refine o_iload_n (n := 592) rfl rfl rfl ?_
          refine o_iconst (n := 593) rfl rfl ?_
          refine o_iadd (n := 594) rfl rfl (by omega) ?_
          refine o_sald (n := 595) rfl rfl (by omega) (by omega) ?_
          obtain ⟨x, g1, r1, g2, r2, hc1, ⟨a34, a35⟩, hc2, hI2, b34, b35⟩ := lawI (p_value (g 34 0 (i + 1)) (g 34 0 (i + 2)) (g 34 0 (i + 3)) (g 34 0 (i + 4))) (by decide) rfl c0 (by omega) hI
          have e35b : g1 35 0 0 = T := by rw [a35]; exact e35
          refine o_invi (n := 598) rfl rfl rfl rfl rfl rfl rfl rfl rfl rfl (hc1) ?_
          refine o_aload_n (n := 599) rfl rfl rfl ?_
          refine o_aload_n (n := 600) rfl rfl rfl ?_
          refine o_iload_n (n := 601) rfl rfl rfl ?_
          refine o_iconst (n := 602) rfl rfl ?_
          refine o_iadd (n := 603) rfl rfl (by omega) ?_
          refine o_sald (n := 604) rfl rfl (by omega) (by omega) ?_
          rw [a34]
          refine o_aload_n (n := 605) rfl rfl rfl ?_
          refine o_iload_n (n := 606) rfl rfl rfl ?_
          refine o_iconst (n := 607) rfl rfl ?_
          refine o_iadd (n := 608) rfl rfl (by omega) ?_
          refine o_sald (n := 609) rfl rfl (by omega) (by omega) ?_
          rw [a34]
          refine o_aload_n (n := 610) rfl rfl rfl ?_
          refine o_iload_n (n := 611) rfl rfl rfl ?_
          refine o_iconst (n := 612) rfl rfl ?_
          refine o_iadd (n := 613) rfl rfl (by omega) ?_
          refine o_sald (n := 614) rfl rfl (by omega) (by omega) ?_
          rw [a34]
          refine o_aload_n (n := 615) rfl rfl rfl ?_
          refine o_iload_n (n := 616) rfl rfl rfl ?_
          refine o_iconst (n := 617) rfl rfl ?_
          refine o_iadd (n := 618) rfl rfl (by omega) ?_
          refine o_sald (n := 619) rfl rfl (by omega) (by omega) ?_
          rw [a34]
          refine o_invi (n := 622) rfl rfl rfl rfl rfl rfl rfl rfl rfl rfl (hc2) ?_
          refine o_icmp_eq (n := 625) (t := 1201) rfl rfl rfl (fun q622 => ?_) (fun q622 => (absurd rfl q622))
          refine o_iinc_3 (n := 1204) rfl rfl rfl (by omega) ?_
          refine o_goto (t := 18) rfl rfl ?_
          first
            | exact ih (i + 6) (c + 1) g2 r2 (by omega) (by omega) (by omega) (by omega) (by rw [b35]; exact e35) (by rw [b34]; exact hin) hI2
            | exact ih (i + 6) (c + 1) g r (by omega) (by omega) (by omega) (by omega) e35 hin (Iv_up hI)
        · change Ou _ 627 _ _ _ _ _
          refine o_aload_n (n := 628) rfl rfl rfl ?_
          obtain ⟨x, g1, r1, g2, r2, hc1, ⟨a34, a35⟩, hc2, hI2, b34, b35⟩ := lawI (p_stage ) (by decide) rfl c0 (by omega) hI
          have e35b : g1 35 0 0 = T := by rw [a35]; exact e35
          refine o_invi (n := 631) rfl rfl rfl rfl rfl rfl rfl rfl rfl rfl (hc1) ?_
          refine o_aload_n (n := 632) rfl rfl rfl ?_
          refine o_invi (n := 635) rfl rfl rfl rfl rfl rfl rfl rfl rfl rfl (hc2) ?_
          refine o_icmp_eq (n := 638) (t := 1201) rfl rfl rfl (fun q635 => ?_) (fun q635 => (absurd rfl q635))
          refine o_iinc_3 (n := 1204) rfl rfl rfl (by omega) ?_
          refine o_goto (t := 18) rfl rfl ?_
          first
            | exact ih (i + 6) (c + 1) g2 r2 (by omega) (by omega) (by omega) (by omega) (by rw [b35]; exact e35) (by rw [b34]; exact hin) hI2
            | exact ih (i + 6) (c + 1) g r (by omega) (by omega) (by omega) (by omega) e35 hin (Iv_up hI)
        · change Ou _ 640 _ _ _ _ _
          refine o_aload_n (n := 641) rfl rfl rfl ?_
          obtain ⟨x, g1, r1, g2, r2, hc1, ⟨a34, a35⟩, hc2, hI2, b34, b35⟩ := lawI (p_back ) (by decide) rfl c0 (by omega) hI
          have e35b : g1 35 0 0 = T := by rw [a35]; exact e35
          refine o_invi (n := 644) rfl rfl rfl rfl rfl rfl rfl rfl rfl rfl (hc1) ?_
          refine o_aload_n (n := 645) rfl rfl rfl ?_
          refine o_invi (n := 648) rfl rfl rfl rfl rfl rfl rfl rfl rfl rfl (hc2) ?_
          refine o_icmp_eq (n := 651) (t := 1201) rfl rfl rfl (fun q648 => ?_) (fun q648 => (absurd rfl q648))
          refine o_iinc_3 (n := 1204) rfl rfl rfl (by omega) ?_
          refine o_goto (t := 18) rfl rfl ?_
          first
            | exact ih (i + 6) (c + 1) g2 r2 (by omega) (by omega) (by omega) (by omega) (by rw [b35]; exact e35) (by rw [b34]; exact hin) hI2
            | exact ih (i + 6) (c + 1) g r (by omega) (by omega) (by omega) (by omega) e35 hin (Iv_up hI)
        · change Ou _ 653 _ _ _ _ _
          refine o_aload_n (n := 654) rfl rfl rfl ?_
          refine o_aload_n (n := 655) rfl rfl rfl ?_
          refine o_iload_n (n := 656) rfl rfl rfl ?_
          refine o_iconst (n := 657) rfl rfl ?_
          refine o_iadd (n := 658) rfl rfl (by omega) ?_
          refine o_sald (n := 659) rfl rfl (by omega) (by omega) ?_
          refine o_aload_n (n := 660) rfl rfl rfl ?_
          refine o_iload_n (n := 661) rfl rfl rfl ?_
          refine o_iconst (n := 662) rfl rfl ?_
          refine o_iadd (n := 663) rfl rfl (by omega) ?_
          refine o_sald (n := 664) rfl rfl (by omega) (by omega) ?_
          obtain ⟨x, g1, r1, g2, r2, hc1, ⟨a34, a35⟩, hc2, hI2, b34, b35⟩ := lawI (p_stages (g 34 0 (i + 1)) (g 34 0 (i + 2))) (by decide) rfl c0 (by omega) hI
          have e35b : g1 35 0 0 = T := by rw [a35]; exact e35
          refine o_invi (n := 667) rfl rfl rfl rfl rfl rfl rfl rfl rfl rfl (hc1) ?_
          refine o_aload_n (n := 668) rfl rfl rfl ?_
          refine o_aload_n (n := 669) rfl rfl rfl ?_
          refine o_iload_n (n := 670) rfl rfl rfl ?_
          refine o_iconst (n := 671) rfl rfl ?_
          refine o_iadd (n := 672) rfl rfl (by omega) ?_
          refine o_sald (n := 673) rfl rfl (by omega) (by omega) ?_
          rw [a34]
          refine o_aload_n (n := 674) rfl rfl rfl ?_
          refine o_iload_n (n := 675) rfl rfl rfl ?_
          refine o_iconst (n := 676) rfl rfl ?_
          refine o_iadd (n := 677) rfl rfl (by omega) ?_
          refine o_sald (n := 678) rfl rfl (by omega) (by omega) ?_
          rw [a34]
          refine o_invi (n := 681) rfl rfl rfl rfl rfl rfl rfl rfl rfl rfl (hc2) ?_
          refine o_icmp_eq (n := 684) (t := 1201) rfl rfl rfl (fun q681 => ?_) (fun q681 => (absurd rfl q681))
          refine o_iinc_3 (n := 1204) rfl rfl rfl (by omega) ?_
          refine o_goto (t := 18) rfl rfl ?_
          first
            | exact ih (i + 6) (c + 1) g2 r2 (by omega) (by omega) (by omega) (by omega) (by rw [b35]; exact e35) (by rw [b34]; exact hin) hI2
            | exact ih (i + 6) (c + 1) g r (by omega) (by omega) (by omega) (by omega) e35 hin (Iv_up hI)
        · change Ou _ 686 _ _ _ _ _
          refine o_aload_n (n := 687) rfl rfl rfl ?_
          refine o_aload_n (n := 688) rfl rfl rfl ?_
          refine o_iload_n (n := 689) rfl rfl rfl ?_
          refine o_iconst (n := 690) rfl rfl ?_
          refine o_iadd (n := 691) rfl rfl (by omega) ?_
          refine o_sald (n := 692) rfl rfl (by omega) (by omega) ?_
          refine o_aload_n (n := 693) rfl rfl rfl ?_
          refine o_iload_n (n := 694) rfl rfl rfl ?_
          refine o_iconst (n := 695) rfl rfl ?_
          refine o_iadd (n := 696) rfl rfl (by omega) ?_
          refine o_sald (n := 697) rfl rfl (by omega) (by omega) ?_
          refine o_aload_n (n := 698) rfl rfl rfl ?_
          refine o_iload_n (n := 699) rfl rfl rfl ?_
          refine o_iconst (n := 700) rfl rfl ?_
          refine o_iadd (n := 701) rfl rfl (by omega) ?_
          refine o_sald (n := 702) rfl rfl (by omega) (by omega) ?_
          refine o_aload_n (n := 703) rfl rfl rfl ?_
          refine o_iload_n (n := 704) rfl rfl rfl ?_
          refine o_iconst (n := 705) rfl rfl ?_
          refine o_iadd (n := 706) rfl rfl (by omega) ?_
          refine o_sald (n := 707) rfl rfl (by omega) (by omega) ?_
          obtain ⟨x, g1, r1, g2, r2, hc1, ⟨a34, a35⟩, hc2, hI2, b34, b35⟩ := lawI (p_kept (g 34 0 (i + 1)) (g 34 0 (i + 2)) (g 34 0 (i + 3)) (g 34 0 (i + 4))) (by decide) rfl c0 (by omega) hI
          have e35b : g1 35 0 0 = T := by rw [a35]; exact e35
          refine o_invi (n := 710) rfl rfl rfl rfl rfl rfl rfl rfl rfl rfl (hc1) ?_
          refine o_aload_n (n := 711) rfl rfl rfl ?_
          refine o_aload_n (n := 712) rfl rfl rfl ?_
          refine o_iload_n (n := 713) rfl rfl rfl ?_
          refine o_iconst (n := 714) rfl rfl ?_
          refine o_iadd (n := 715) rfl rfl (by omega) ?_
          refine o_sald (n := 716) rfl rfl (by omega) (by omega) ?_
          rw [a34]
          refine o_aload_n (n := 717) rfl rfl rfl ?_
          refine o_iload_n (n := 718) rfl rfl rfl ?_
          refine o_iconst (n := 719) rfl rfl ?_
          refine o_iadd (n := 720) rfl rfl (by omega) ?_
          refine o_sald (n := 721) rfl rfl (by omega) (by omega) ?_
          rw [a34]
          refine o_aload_n (n := 722) rfl rfl rfl ?_
          refine o_iload_n (n := 723) rfl rfl rfl ?_
          refine o_iconst (n := 724) rfl rfl ?_
          refine o_iadd (n := 725) rfl rfl (by omega) ?_
          refine o_sald (n := 726) rfl rfl (by omega) (by omega) ?_
          rw [a34]
          refine o_aload_n (n := 727) rfl rfl rfl ?_
          refine o_iload_n (n := 728) rfl rfl rfl ?_
          refine o_iconst (n := 729) rfl rfl ?_
          refine o_iadd (n := 730) rfl rfl (by omega) ?_
          refine o_sald (n := 731) rfl rfl (by omega) (by omega) ?_
          rw [a34]
          refine o_invi (n := 734) rfl rfl rfl rfl rfl rfl rfl rfl rfl rfl (hc2) ?_
          refine o_icmp_eq (n := 737) (t := 1201) rfl rfl rfl (fun q734 => ?_) (fun q734 => (absurd rfl q734))
          refine o_iinc_3 (n := 1204) rfl rfl rfl (by omega) ?_
          refine o_goto (t := 18) rfl rfl ?_
          first
            | exact ih (i + 6) (c + 1) g2 r2 (by omega) (by omega) (by omega) (by omega) (by rw [b35]; exact e35) (by rw [b34]; exact hin) hI2
            | exact ih (i + 6) (c + 1) g r (by omega) (by omega) (by omega) (by omega) e35 hin (Iv_up hI)
        · change Ou _ 739 _ _ _ _ _
          refine o_aload_n (n := 740) rfl rfl rfl ?_
          refine o_aload_n (n := 741) rfl rfl rfl ?_
          refine o_iload_n (n := 742) rfl rfl rfl ?_
          refine o_iconst (n := 743) rfl rfl ?_
          refine o_iadd (n := 744) rfl rfl (by omega) ?_
          refine o_sald (n := 745) rfl rfl (by omega) (by omega) ?_
          obtain ⟨x, g1, r1, g2, r2, hc1, ⟨a34, a35⟩, hc2, hI2, b34, b35⟩ := lawI (p_swap (g 34 0 (i + 1))) (by decide) rfl c0 (by omega) hI
          have e35b : g1 35 0 0 = T := by rw [a35]; exact e35
          refine o_invi (n := 748) rfl rfl rfl rfl rfl rfl rfl rfl rfl rfl (hc1) ?_
          refine o_aload_n (n := 749) rfl rfl rfl ?_
          refine o_aload_n (n := 750) rfl rfl rfl ?_
          refine o_iload_n (n := 751) rfl rfl rfl ?_
          refine o_iconst (n := 752) rfl rfl ?_
          refine o_iadd (n := 753) rfl rfl (by omega) ?_
          refine o_sald (n := 754) rfl rfl (by omega) (by omega) ?_
          rw [a34]
          refine o_invi (n := 757) rfl rfl rfl rfl rfl rfl rfl rfl rfl rfl (hc2) ?_
          refine o_icmp_eq (n := 760) (t := 1201) rfl rfl rfl (fun q757 => ?_) (fun q757 => (absurd rfl q757))
          refine o_iinc_3 (n := 1204) rfl rfl rfl (by omega) ?_
          refine o_goto (t := 18) rfl rfl ?_
          first
            | exact ih (i + 6) (c + 1) g2 r2 (by omega) (by omega) (by omega) (by omega) (by rw [b35]; exact e35) (by rw [b34]; exact hin) hI2
            | exact ih (i + 6) (c + 1) g r (by omega) (by omega) (by omega) (by omega) e35 hin (Iv_up hI)
        · change Ou _ 762 _ _ _ _ _
          refine o_aload_n (n := 763) rfl rfl rfl ?_
          obtain ⟨x, g1, r1, g2, r2, hc1, ⟨a34, a35⟩, hc2, hI2, b34, b35⟩ := lawI (p_ends ) (by decide) rfl c0 (by omega) hI
          have e35b : g1 35 0 0 = T := by rw [a35]; exact e35
          refine o_invi (n := 766) rfl rfl rfl rfl rfl rfl rfl rfl rfl rfl (hc1) ?_
          refine o_aload_n (n := 767) rfl rfl rfl ?_
          refine o_invi (n := 770) rfl rfl rfl rfl rfl rfl rfl rfl rfl rfl (hc2) ?_
          refine o_icmp_eq (n := 773) (t := 1201) rfl rfl rfl (fun q770 => ?_) (fun q770 => (absurd rfl q770))
          refine o_iinc_3 (n := 1204) rfl rfl rfl (by omega) ?_
          refine o_goto (t := 18) rfl rfl ?_
          first
            | exact ih (i + 6) (c + 1) g2 r2 (by omega) (by omega) (by omega) (by omega) (by rw [b35]; exact e35) (by rw [b34]; exact hin) hI2
            | exact ih (i + 6) (c + 1) g r (by omega) (by omega) (by omega) (by omega) e35 hin (Iv_up hI)
        · change Ou _ 775 _ _ _ _ _
          refine o_aload_n (n := 776) rfl rfl rfl ?_
          refine o_aload_n (n := 777) rfl rfl rfl ?_
          refine o_iload_n (n := 778) rfl rfl rfl ?_
          refine o_iconst (n := 779) rfl rfl ?_
          refine o_iadd (n := 780) rfl rfl (by omega) ?_
          refine o_sald (n := 781) rfl rfl (by omega) (by omega) ?_
          obtain ⟨x, g1, r1, g2, r2, hc1, ⟨a34, a35⟩, hc2, hI2, b34, b35⟩ := lawI (p_search (g 34 0 (i + 1))) (by decide) rfl c0 (by omega) hI
          have e35b : g1 35 0 0 = T := by rw [a35]; exact e35
          refine o_invi (n := 784) rfl rfl rfl rfl rfl rfl rfl rfl rfl rfl (hc1) ?_
          refine o_aload_n (n := 785) rfl rfl rfl ?_
          refine o_aload_n (n := 786) rfl rfl rfl ?_
          refine o_iload_n (n := 787) rfl rfl rfl ?_
          refine o_iconst (n := 788) rfl rfl ?_
          refine o_iadd (n := 789) rfl rfl (by omega) ?_
          refine o_sald (n := 790) rfl rfl (by omega) (by omega) ?_
          rw [a34]
          refine o_invi (n := 793) rfl rfl rfl rfl rfl rfl rfl rfl rfl rfl (hc2) ?_
          refine o_icmp_eq (n := 796) (t := 1201) rfl rfl rfl (fun q793 => ?_) (fun q793 => (absurd rfl q793))
          refine o_iinc_3 (n := 1204) rfl rfl rfl (by omega) ?_
          refine o_goto (t := 18) rfl rfl ?_
          first
            | exact ih (i + 6) (c + 1) g2 r2 (by omega) (by omega) (by omega) (by omega) (by rw [b35]; exact e35) (by rw [b34]; exact hin) hI2
            | exact ih (i + 6) (c + 1) g r (by omega) (by omega) (by omega) (by omega) e35 hin (Iv_up hI)
        · change Ou _ 798 _ _ _ _ _
          refine o_aload_n (n := 799) rfl rfl rfl ?_
          refine o_aload_n (n := 800) rfl rfl rfl ?_
          refine o_iload_n (n := 801) rfl rfl rfl ?_
          refine o_iconst (n := 802) rfl rfl ?_
          refine o_iadd (n := 803) rfl rfl (by omega) ?_
          refine o_sald (n := 804) rfl rfl (by omega) (by omega) ?_
          obtain ⟨x, g1, r1, g2, r2, hc1, ⟨a34, a35⟩, hc2, hI2, b34, b35⟩ := lawI (p_auto (g 34 0 (i + 1))) (by decide) rfl c0 (by omega) hI
          have e35b : g1 35 0 0 = T := by rw [a35]; exact e35
          refine o_invi (n := 807) rfl rfl rfl rfl rfl rfl rfl rfl rfl rfl (hc1) ?_
          refine o_aload_n (n := 808) rfl rfl rfl ?_
          refine o_aload_n (n := 809) rfl rfl rfl ?_
          refine o_iload_n (n := 810) rfl rfl rfl ?_
          refine o_iconst (n := 811) rfl rfl ?_
          refine o_iadd (n := 812) rfl rfl (by omega) ?_
          refine o_sald (n := 813) rfl rfl (by omega) (by omega) ?_
          rw [a34]
          refine o_invi (n := 816) rfl rfl rfl rfl rfl rfl rfl rfl rfl rfl (hc2) ?_
          refine o_icmp_eq (n := 819) (t := 1201) rfl rfl rfl (fun q816 => ?_) (fun q816 => (absurd rfl q816))
          refine o_iinc_3 (n := 1204) rfl rfl rfl (by omega) ?_
          refine o_goto (t := 18) rfl rfl ?_
          first
            | exact ih (i + 6) (c + 1) g2 r2 (by omega) (by omega) (by omega) (by omega) (by rw [b35]; exact e35) (by rw [b34]; exact hin) hI2
            | exact ih (i + 6) (c + 1) g r (by omega) (by omega) (by omega) (by omega) e35 hin (Iv_up hI)
        · change Ou _ 821 _ _ _ _ _
          refine o_aload_n (n := 822) rfl rfl rfl ?_
          obtain ⟨x, g1, r1, g2, r2, hc1, ⟨a34, a35⟩, hc2, hI2, b34, b35⟩ := lawI (p_word ) (by decide) rfl c0 (by omega) hI
          have e35b : g1 35 0 0 = T := by rw [a35]; exact e35
          refine o_invi (n := 825) rfl rfl rfl rfl rfl rfl rfl rfl rfl rfl (hc1) ?_
          refine o_aload_n (n := 826) rfl rfl rfl ?_
          refine o_invi (n := 829) rfl rfl rfl rfl rfl rfl rfl rfl rfl rfl (hc2) ?_
          refine o_icmp_eq (n := 832) (t := 1201) rfl rfl rfl (fun q829 => ?_) (fun q829 => (absurd rfl q829))
          refine o_iinc_3 (n := 1204) rfl rfl rfl (by omega) ?_
          refine o_goto (t := 18) rfl rfl ?_
          first
            | exact ih (i + 6) (c + 1) g2 r2 (by omega) (by omega) (by omega) (by omega) (by rw [b35]; exact e35) (by rw [b34]; exact hin) hI2
            | exact ih (i + 6) (c + 1) g r (by omega) (by omega) (by omega) (by omega) e35 hin (Iv_up hI)
        · change Ou _ 834 _ _ _ _ _
          refine o_aload_n (n := 835) rfl rfl rfl ?_
          obtain ⟨x, g1, r1, g2, r2, hc1, ⟨a34, a35⟩, hc2, hI2, b34, b35⟩ := lawI (p_step ) (by decide) rfl c0 (by omega) hI
          have e35b : g1 35 0 0 = T := by rw [a35]; exact e35
          refine o_invi (n := 838) rfl rfl rfl rfl rfl rfl rfl rfl rfl rfl (hc1) ?_
          refine o_aload_n (n := 839) rfl rfl rfl ?_
          refine o_invi (n := 842) rfl rfl rfl rfl rfl rfl rfl rfl rfl rfl (hc2) ?_
          refine o_icmp_eq (n := 845) (t := 1201) rfl rfl rfl (fun q842 => ?_) (fun q842 => (absurd rfl q842))
          refine o_iinc_3 (n := 1204) rfl rfl rfl (by omega) ?_
          refine o_goto (t := 18) rfl rfl ?_
          first
            | exact ih (i + 6) (c + 1) g2 r2 (by omega) (by omega) (by omega) (by omega) (by rw [b35]; exact e35) (by rw [b34]; exact hin) hI2
            | exact ih (i + 6) (c + 1) g r (by omega) (by omega) (by omega) (by omega) e35 hin (Iv_up hI)
        · change Ou _ 847 _ _ _ _ _
          refine o_aload_n (n := 848) rfl rfl rfl ?_
          refine o_aload_n (n := 849) rfl rfl rfl ?_
          refine o_iload_n (n := 850) rfl rfl rfl ?_
          refine o_iconst (n := 851) rfl rfl ?_
          refine o_iadd (n := 852) rfl rfl (by omega) ?_
          refine o_sald (n := 853) rfl rfl (by omega) (by omega) ?_
          obtain ⟨x, g1, r1, g2, r2, hc1, ⟨a34, a35⟩, hc2, hI2, b34, b35⟩ := lawI (p_run (g 34 0 (i + 1))) (by decide) rfl c0 (by omega) hI
          have e35b : g1 35 0 0 = T := by rw [a35]; exact e35
          refine o_invi (n := 856) rfl rfl rfl rfl rfl rfl rfl rfl rfl rfl (hc1) ?_
          refine o_aload_n (n := 857) rfl rfl rfl ?_
          refine o_aload_n (n := 858) rfl rfl rfl ?_
          refine o_iload_n (n := 859) rfl rfl rfl ?_
          refine o_iconst (n := 860) rfl rfl ?_
          refine o_iadd (n := 861) rfl rfl (by omega) ?_
          refine o_sald (n := 862) rfl rfl (by omega) (by omega) ?_
          rw [a34]
          refine o_invi (n := 865) rfl rfl rfl rfl rfl rfl rfl rfl rfl rfl (hc2) ?_
          refine o_icmp_eq (n := 868) (t := 1201) rfl rfl rfl (fun q865 => ?_) (fun q865 => (absurd rfl q865))
          refine o_iinc_3 (n := 1204) rfl rfl rfl (by omega) ?_
          refine o_goto (t := 18) rfl rfl ?_
          first
            | exact ih (i + 6) (c + 1) g2 r2 (by omega) (by omega) (by omega) (by omega) (by rw [b35]; exact e35) (by rw [b34]; exact hin) hI2
            | exact ih (i + 6) (c + 1) g r (by omega) (by omega) (by omega) (by omega) e35 hin (Iv_up hI)
        · change Ou _ 870 _ _ _ _ _
          refine o_aload_n (n := 871) rfl rfl rfl ?_
          refine o_aload_n (n := 872) rfl rfl rfl ?_
          refine o_iload_n (n := 873) rfl rfl rfl ?_
          refine o_iconst (n := 874) rfl rfl ?_
          refine o_iadd (n := 875) rfl rfl (by omega) ?_
          refine o_sald (n := 876) rfl rfl (by omega) (by omega) ?_
          obtain ⟨x, g1, r1, g2, r2, hc1, ⟨a34, a35⟩, hc2, hI2, b34, b35⟩ := lawI (p_letter (g 34 0 (i + 1))) (by decide) rfl c0 (by omega) hI
          have e35b : g1 35 0 0 = T := by rw [a35]; exact e35
          refine o_invi (n := 879) rfl rfl rfl rfl rfl rfl rfl rfl rfl rfl (hc1) ?_
          refine o_aload_n (n := 880) rfl rfl rfl ?_
          refine o_aload_n (n := 881) rfl rfl rfl ?_
          refine o_iload_n (n := 882) rfl rfl rfl ?_
          refine o_iconst (n := 883) rfl rfl ?_
          refine o_iadd (n := 884) rfl rfl (by omega) ?_
          refine o_sald (n := 885) rfl rfl (by omega) (by omega) ?_
          rw [a34]
          refine o_invi (n := 888) rfl rfl rfl rfl rfl rfl rfl rfl rfl rfl (hc2) ?_
          refine o_icmp_eq (n := 891) (t := 1201) rfl rfl rfl (fun q888 => ?_) (fun q888 => (absurd rfl q888))
          refine o_iinc_3 (n := 1204) rfl rfl rfl (by omega) ?_
          refine o_goto (t := 18) rfl rfl ?_
          first
            | exact ih (i + 6) (c + 1) g2 r2 (by omega) (by omega) (by omega) (by omega) (by rw [b35]; exact e35) (by rw [b34]; exact hin) hI2
            | exact ih (i + 6) (c + 1) g r (by omega) (by omega) (by omega) (by omega) e35 hin (Iv_up hI)
        · change Ou _ 893 _ _ _ _ _
          refine o_aload_n (n := 894) rfl rfl rfl ?_
          refine o_aload_n (n := 895) rfl rfl rfl ?_
          refine o_iload_n (n := 896) rfl rfl rfl ?_
          refine o_iconst (n := 897) rfl rfl ?_
          refine o_iadd (n := 898) rfl rfl (by omega) ?_
          refine o_sald (n := 899) rfl rfl (by omega) (by omega) ?_
          obtain ⟨x, g1, r1, g2, r2, hc1, ⟨a34, a35⟩, hc2, hI2, b34, b35⟩ := lawI (p_measure (g 34 0 (i + 1))) (by decide) rfl c0 (by omega) hI
          have e35b : g1 35 0 0 = T := by rw [a35]; exact e35
          refine o_invi (n := 902) rfl rfl rfl rfl rfl rfl rfl rfl rfl rfl (hc1) ?_
          refine o_aload_n (n := 903) rfl rfl rfl ?_
          refine o_aload_n (n := 904) rfl rfl rfl ?_
          refine o_iload_n (n := 905) rfl rfl rfl ?_
          refine o_iconst (n := 906) rfl rfl ?_
          refine o_iadd (n := 907) rfl rfl (by omega) ?_
          refine o_sald (n := 908) rfl rfl (by omega) (by omega) ?_
          rw [a34]
          refine o_invi (n := 911) rfl rfl rfl rfl rfl rfl rfl rfl rfl rfl (hc2) ?_
          refine o_icmp_eq (n := 914) (t := 1201) rfl rfl rfl (fun q911 => ?_) (fun q911 => (absurd rfl q911))
          refine o_iinc_3 (n := 1204) rfl rfl rfl (by omega) ?_
          refine o_goto (t := 18) rfl rfl ?_
          first
            | exact ih (i + 6) (c + 1) g2 r2 (by omega) (by omega) (by omega) (by omega) (by rw [b35]; exact e35) (by rw [b34]; exact hin) hI2
            | exact ih (i + 6) (c + 1) g r (by omega) (by omega) (by omega) (by omega) e35 hin (Iv_up hI)
        · change Ou _ 916 _ _ _ _ _
          refine o_aload_n (n := 917) rfl rfl rfl ?_
          refine o_aload_n (n := 918) rfl rfl rfl ?_
          refine o_iload_n (n := 919) rfl rfl rfl ?_
          refine o_iconst (n := 920) rfl rfl ?_
          refine o_iadd (n := 921) rfl rfl (by omega) ?_
          refine o_sald (n := 922) rfl rfl (by omega) (by omega) ?_
          refine o_aload_n (n := 923) rfl rfl rfl ?_
          refine o_iload_n (n := 924) rfl rfl rfl ?_
          refine o_iconst (n := 925) rfl rfl ?_
          refine o_iadd (n := 926) rfl rfl (by omega) ?_
          refine o_sald (n := 927) rfl rfl (by omega) (by omega) ?_
          refine o_aload_n (n := 928) rfl rfl rfl ?_
          refine o_iload_n (n := 929) rfl rfl rfl ?_
          refine o_iconst (n := 930) rfl rfl ?_
          refine o_iadd (n := 931) rfl rfl (by omega) ?_
          refine o_sald (n := 932) rfl rfl (by omega) (by omega) ?_
          obtain ⟨x, g1, r1, g2, r2, hc1, ⟨a34, a35⟩, hc2, hI2, b34, b35⟩ := lawI (p_sheet (g 34 0 (i + 1)) (g 34 0 (i + 2)) (g 34 0 (i + 3))) (by decide) rfl c0 (by omega) hI
          have e35b : g1 35 0 0 = T := by rw [a35]; exact e35
          refine o_invi (n := 935) rfl rfl rfl rfl rfl rfl rfl rfl rfl rfl (hc1) ?_
          refine o_aload_n (n := 936) rfl rfl rfl ?_
          refine o_aload_n (n := 937) rfl rfl rfl ?_
          refine o_iload_n (n := 938) rfl rfl rfl ?_
          refine o_iconst (n := 939) rfl rfl ?_
          refine o_iadd (n := 940) rfl rfl (by omega) ?_
          refine o_sald (n := 941) rfl rfl (by omega) (by omega) ?_
          rw [a34]
          refine o_aload_n (n := 942) rfl rfl rfl ?_
          refine o_iload_n (n := 943) rfl rfl rfl ?_
          refine o_iconst (n := 944) rfl rfl ?_
          refine o_iadd (n := 945) rfl rfl (by omega) ?_
          refine o_sald (n := 946) rfl rfl (by omega) (by omega) ?_
          rw [a34]
          refine o_aload_n (n := 947) rfl rfl rfl ?_
          refine o_iload_n (n := 948) rfl rfl rfl ?_
          refine o_iconst (n := 949) rfl rfl ?_
          refine o_iadd (n := 950) rfl rfl (by omega) ?_
          refine o_sald (n := 951) rfl rfl (by omega) (by omega) ?_
          rw [a34]
          refine o_invi (n := 954) rfl rfl rfl rfl rfl rfl rfl rfl rfl rfl (hc2) ?_
          refine o_icmp_eq (n := 957) (t := 1201) rfl rfl rfl (fun q954 => ?_) (fun q954 => (absurd rfl q954))
          refine o_iinc_3 (n := 1204) rfl rfl rfl (by omega) ?_
          refine o_goto (t := 18) rfl rfl ?_
          first
            | exact ih (i + 6) (c + 1) g2 r2 (by omega) (by omega) (by omega) (by omega) (by rw [b35]; exact e35) (by rw [b34]; exact hin) hI2
            | exact ih (i + 6) (c + 1) g r (by omega) (by omega) (by omega) (by omega) e35 hin (Iv_up hI)
        · change Ou _ 959 _ _ _ _ _
          refine o_aload_n (n := 960) rfl rfl rfl ?_
          refine o_aload_n (n := 961) rfl rfl rfl ?_
          refine o_iload_n (n := 962) rfl rfl rfl ?_
          refine o_iconst (n := 963) rfl rfl ?_
          refine o_iadd (n := 964) rfl rfl (by omega) ?_
          refine o_sald (n := 965) rfl rfl (by omega) (by omega) ?_
          obtain ⟨x, g1, r1, g2, r2, hc1, ⟨a34, a35⟩, hc2, hI2, b34, b35⟩ := lawI (p_lose (g 34 0 (i + 1))) (by decide) rfl c0 (by omega) hI
          have e35b : g1 35 0 0 = T := by rw [a35]; exact e35
          refine o_invi (n := 968) rfl rfl rfl rfl rfl rfl rfl rfl rfl rfl (hc1) ?_
          refine o_aload_n (n := 969) rfl rfl rfl ?_
          refine o_aload_n (n := 970) rfl rfl rfl ?_
          refine o_iload_n (n := 971) rfl rfl rfl ?_
          refine o_iconst (n := 972) rfl rfl ?_
          refine o_iadd (n := 973) rfl rfl (by omega) ?_
          refine o_sald (n := 974) rfl rfl (by omega) (by omega) ?_
          rw [a34]
          refine o_invi (n := 977) rfl rfl rfl rfl rfl rfl rfl rfl rfl rfl (hc2) ?_
          refine o_icmp_eq (n := 980) (t := 1201) rfl rfl rfl (fun q977 => ?_) (fun q977 => (absurd rfl q977))
          refine o_iinc_3 (n := 1204) rfl rfl rfl (by omega) ?_
          refine o_goto (t := 18) rfl rfl ?_
          first
            | exact ih (i + 6) (c + 1) g2 r2 (by omega) (by omega) (by omega) (by omega) (by rw [b35]; exact e35) (by rw [b34]; exact hin) hI2
            | exact ih (i + 6) (c + 1) g r (by omega) (by omega) (by omega) (by omega) e35 hin (Iv_up hI)
        · change Ou _ 982 _ _ _ _ _
          refine o_aload_n (n := 983) rfl rfl rfl ?_
          refine o_aload_n (n := 984) rfl rfl rfl ?_
          refine o_iload_n (n := 985) rfl rfl rfl ?_
          refine o_iconst (n := 986) rfl rfl ?_
          refine o_iadd (n := 987) rfl rfl (by omega) ?_
          refine o_sald (n := 988) rfl rfl (by omega) (by omega) ?_
          refine o_aload_n (n := 989) rfl rfl rfl ?_
          refine o_iload_n (n := 990) rfl rfl rfl ?_
          refine o_iconst (n := 991) rfl rfl ?_
          refine o_iadd (n := 992) rfl rfl (by omega) ?_
          refine o_sald (n := 993) rfl rfl (by omega) (by omega) ?_
          refine o_aload_n (n := 994) rfl rfl rfl ?_
          refine o_iload_n (n := 995) rfl rfl rfl ?_
          refine o_iconst (n := 996) rfl rfl ?_
          refine o_iadd (n := 997) rfl rfl (by omega) ?_
          refine o_sald (n := 998) rfl rfl (by omega) (by omega) ?_
          refine o_aload_n (n := 999) rfl rfl rfl ?_
          refine o_iload_n (n := 1000) rfl rfl rfl ?_
          refine o_iconst (n := 1001) rfl rfl ?_
          refine o_iadd (n := 1002) rfl rfl (by omega) ?_
          refine o_sald (n := 1003) rfl rfl (by omega) (by omega) ?_
          obtain ⟨x, g1, r1, g2, r2, hc1, ⟨a34, a35⟩, hc2, hI2, b34, b35⟩ := lawI (p_lay (g 34 0 (i + 1)) (g 34 0 (i + 2)) (g 34 0 (i + 3)) (g 34 0 (i + 4))) (by decide) rfl c0 (by omega) hI
          have e35b : g1 35 0 0 = T := by rw [a35]; exact e35
          refine o_invi (n := 1006) rfl rfl rfl rfl rfl rfl rfl rfl rfl rfl (hc1) ?_
          refine o_aload_n (n := 1007) rfl rfl rfl ?_
          refine o_aload_n (n := 1008) rfl rfl rfl ?_
          refine o_iload_n (n := 1009) rfl rfl rfl ?_
          refine o_iconst (n := 1010) rfl rfl ?_
          refine o_iadd (n := 1011) rfl rfl (by omega) ?_
          refine o_sald (n := 1012) rfl rfl (by omega) (by omega) ?_
          rw [a34]
          refine o_aload_n (n := 1013) rfl rfl rfl ?_
          refine o_iload_n (n := 1014) rfl rfl rfl ?_
          refine o_iconst (n := 1015) rfl rfl ?_
          refine o_iadd (n := 1016) rfl rfl (by omega) ?_
          refine o_sald (n := 1017) rfl rfl (by omega) (by omega) ?_
          rw [a34]
          refine o_aload_n (n := 1018) rfl rfl rfl ?_
          refine o_iload_n (n := 1019) rfl rfl rfl ?_
          refine o_iconst (n := 1020) rfl rfl ?_
          refine o_iadd (n := 1021) rfl rfl (by omega) ?_
          refine o_sald (n := 1022) rfl rfl (by omega) (by omega) ?_
          rw [a34]
          refine o_aload_n (n := 1023) rfl rfl rfl ?_
          refine o_iload_n (n := 1024) rfl rfl rfl ?_
          refine o_iconst (n := 1025) rfl rfl ?_
          refine o_iadd (n := 1026) rfl rfl (by omega) ?_
          refine o_sald (n := 1027) rfl rfl (by omega) (by omega) ?_
          rw [a34]
          refine o_invi (n := 1030) rfl rfl rfl rfl rfl rfl rfl rfl rfl rfl (hc2) ?_
          refine o_icmp_eq (n := 1033) (t := 1201) rfl rfl rfl (fun q1030 => ?_) (fun q1030 => (absurd rfl q1030))
          refine o_iinc_3 (n := 1204) rfl rfl rfl (by omega) ?_
          refine o_goto (t := 18) rfl rfl ?_
          first
            | exact ih (i + 6) (c + 1) g2 r2 (by omega) (by omega) (by omega) (by omega) (by rw [b35]; exact e35) (by rw [b34]; exact hin) hI2
            | exact ih (i + 6) (c + 1) g r (by omega) (by omega) (by omega) (by omega) e35 hin (Iv_up hI)
        · change Ou _ 1035 _ _ _ _ _
          refine o_aload_n (n := 1036) rfl rfl rfl ?_
          refine o_aload_n (n := 1037) rfl rfl rfl ?_
          refine o_iload_n (n := 1038) rfl rfl rfl ?_
          refine o_iconst (n := 1039) rfl rfl ?_
          refine o_iadd (n := 1040) rfl rfl (by omega) ?_
          refine o_sald (n := 1041) rfl rfl (by omega) (by omega) ?_
          refine o_aload_n (n := 1042) rfl rfl rfl ?_
          refine o_iload_n (n := 1043) rfl rfl rfl ?_
          refine o_iconst (n := 1044) rfl rfl ?_
          refine o_iadd (n := 1045) rfl rfl (by omega) ?_
          refine o_sald (n := 1046) rfl rfl (by omega) (by omega) ?_
          refine o_aload_n (n := 1047) rfl rfl rfl ?_
          refine o_iload_n (n := 1048) rfl rfl rfl ?_
          refine o_iconst (n := 1049) rfl rfl ?_
          refine o_iadd (n := 1050) rfl rfl (by omega) ?_
          refine o_sald (n := 1051) rfl rfl (by omega) (by omega) ?_
          obtain ⟨x, g1, r1, g2, r2, hc1, ⟨a34, a35⟩, hc2, hI2, b34, b35⟩ := lawI (p_get (g 34 0 (i + 1)) (g 34 0 (i + 2)) (g 34 0 (i + 3))) (by decide) rfl c0 (by omega) hI
          have e35b : g1 35 0 0 = T := by rw [a35]; exact e35
          refine o_invi (n := 1054) rfl rfl rfl rfl rfl rfl rfl rfl rfl rfl (hc1) ?_
          refine o_aload_n (n := 1055) rfl rfl rfl ?_
          refine o_aload_n (n := 1056) rfl rfl rfl ?_
          refine o_iload_n (n := 1057) rfl rfl rfl ?_
          refine o_iconst (n := 1058) rfl rfl ?_
          refine o_iadd (n := 1059) rfl rfl (by omega) ?_
          refine o_sald (n := 1060) rfl rfl (by omega) (by omega) ?_
          rw [a34]
          refine o_aload_n (n := 1061) rfl rfl rfl ?_
          refine o_iload_n (n := 1062) rfl rfl rfl ?_
          refine o_iconst (n := 1063) rfl rfl ?_
          refine o_iadd (n := 1064) rfl rfl (by omega) ?_
          refine o_sald (n := 1065) rfl rfl (by omega) (by omega) ?_
          rw [a34]
          refine o_aload_n (n := 1066) rfl rfl rfl ?_
          refine o_iload_n (n := 1067) rfl rfl rfl ?_
          refine o_iconst (n := 1068) rfl rfl ?_
          refine o_iadd (n := 1069) rfl rfl (by omega) ?_
          refine o_sald (n := 1070) rfl rfl (by omega) (by omega) ?_
          rw [a34]
          refine o_invi (n := 1073) rfl rfl rfl rfl rfl rfl rfl rfl rfl rfl (hc2) ?_
          refine o_icmp_eq (n := 1076) (t := 1201) rfl rfl rfl (fun q1073 => ?_) (fun q1073 => (absurd rfl q1073))
          refine o_iinc_3 (n := 1204) rfl rfl rfl (by omega) ?_
          refine o_goto (t := 18) rfl rfl ?_
          first
            | exact ih (i + 6) (c + 1) g2 r2 (by omega) (by omega) (by omega) (by omega) (by rw [b35]; exact e35) (by rw [b34]; exact hin) hI2
            | exact ih (i + 6) (c + 1) g r (by omega) (by omega) (by omega) (by omega) e35 hin (Iv_up hI)
        · change Ou _ 1078 _ _ _ _ _
          refine o_aload_n (n := 1079) rfl rfl rfl ?_
          refine o_aload_n (n := 1080) rfl rfl rfl ?_
          refine o_iload_n (n := 1081) rfl rfl rfl ?_
          refine o_iconst (n := 1082) rfl rfl ?_
          refine o_iadd (n := 1083) rfl rfl (by omega) ?_
          refine o_sald (n := 1084) rfl rfl (by omega) (by omega) ?_
          refine o_aload_n (n := 1085) rfl rfl rfl ?_
          refine o_iload_n (n := 1086) rfl rfl rfl ?_
          refine o_iconst (n := 1087) rfl rfl ?_
          refine o_iadd (n := 1088) rfl rfl (by omega) ?_
          refine o_sald (n := 1089) rfl rfl (by omega) (by omega) ?_
          refine o_aload_n (n := 1090) rfl rfl rfl ?_
          refine o_iload_n (n := 1091) rfl rfl rfl ?_
          refine o_iconst (n := 1092) rfl rfl ?_
          refine o_iadd (n := 1093) rfl rfl (by omega) ?_
          refine o_sald (n := 1094) rfl rfl (by omega) (by omega) ?_
          refine o_aload_n (n := 1095) rfl rfl rfl ?_
          refine o_iload_n (n := 1096) rfl rfl rfl ?_
          refine o_iconst (n := 1097) rfl rfl ?_
          refine o_iadd (n := 1098) rfl rfl (by omega) ?_
          refine o_sald (n := 1099) rfl rfl (by omega) (by omega) ?_
          refine o_aload_n (n := 1100) rfl rfl rfl ?_
          refine o_iload_n (n := 1101) rfl rfl rfl ?_
          refine o_iconst (n := 1102) rfl rfl ?_
          refine o_iadd (n := 1103) rfl rfl (by omega) ?_
          refine o_sald (n := 1104) rfl rfl (by omega) (by omega) ?_
          obtain ⟨x, g1, r1, g2, r2, hc1, ⟨a34, a35⟩, hc2, hI2, b34, b35⟩ := lawI (p_copy (g 34 0 (i + 1)) (g 34 0 (i + 2)) (g 34 0 (i + 3)) (g 34 0 (i + 4)) (g 34 0 (i + 5)) (hin _) (hin _) (hin _)) (by decide) rfl c0 (by omega) hI
          have e35b : g1 35 0 0 = T := by rw [a35]; exact e35
          refine o_invi (n := 1107) rfl rfl rfl rfl rfl rfl rfl rfl rfl rfl (hc1) ?_
          refine o_aload_n (n := 1108) rfl rfl rfl ?_
          refine o_aload_n (n := 1109) rfl rfl rfl ?_
          refine o_iload_n (n := 1110) rfl rfl rfl ?_
          refine o_iconst (n := 1111) rfl rfl ?_
          refine o_iadd (n := 1112) rfl rfl (by omega) ?_
          refine o_sald (n := 1113) rfl rfl (by omega) (by omega) ?_
          rw [a34]
          refine o_aload_n (n := 1114) rfl rfl rfl ?_
          refine o_iload_n (n := 1115) rfl rfl rfl ?_
          refine o_iconst (n := 1116) rfl rfl ?_
          refine o_iadd (n := 1117) rfl rfl (by omega) ?_
          refine o_sald (n := 1118) rfl rfl (by omega) (by omega) ?_
          rw [a34]
          refine o_aload_n (n := 1119) rfl rfl rfl ?_
          refine o_iload_n (n := 1120) rfl rfl rfl ?_
          refine o_iconst (n := 1121) rfl rfl ?_
          refine o_iadd (n := 1122) rfl rfl (by omega) ?_
          refine o_sald (n := 1123) rfl rfl (by omega) (by omega) ?_
          rw [a34]
          refine o_aload_n (n := 1124) rfl rfl rfl ?_
          refine o_iload_n (n := 1125) rfl rfl rfl ?_
          refine o_iconst (n := 1126) rfl rfl ?_
          refine o_iadd (n := 1127) rfl rfl (by omega) ?_
          refine o_sald (n := 1128) rfl rfl (by omega) (by omega) ?_
          rw [a34]
          refine o_aload_n (n := 1129) rfl rfl rfl ?_
          refine o_iload_n (n := 1130) rfl rfl rfl ?_
          refine o_iconst (n := 1131) rfl rfl ?_
          refine o_iadd (n := 1132) rfl rfl (by omega) ?_
          refine o_sald (n := 1133) rfl rfl (by omega) (by omega) ?_
          rw [a34]
          refine o_invi (n := 1136) rfl rfl rfl rfl rfl rfl rfl rfl rfl rfl (hc2) ?_
          refine o_icmp_eq (n := 1139) (t := 1201) rfl rfl rfl (fun q1136 => ?_) (fun q1136 => (absurd rfl q1136))
          refine o_iinc_3 (n := 1204) rfl rfl rfl (by omega) ?_
          refine o_goto (t := 18) rfl rfl ?_
          first
            | exact ih (i + 6) (c + 1) g2 r2 (by omega) (by omega) (by omega) (by omega) (by rw [b35]; exact e35) (by rw [b34]; exact hin) hI2
            | exact ih (i + 6) (c + 1) g r (by omega) (by omega) (by omega) (by omega) e35 hin (Iv_up hI)
        · change Ou _ 1141 _ _ _ _ _
          refine o_aload_n (n := 1142) rfl rfl rfl ?_
          refine o_aload_n (n := 1143) rfl rfl rfl ?_
          refine o_iload_n (n := 1144) rfl rfl rfl ?_
          refine o_iconst (n := 1145) rfl rfl ?_
          refine o_iadd (n := 1146) rfl rfl (by omega) ?_
          refine o_sald (n := 1147) rfl rfl (by omega) (by omega) ?_
          obtain ⟨x, g1, r1, g2, r2, hc1, ⟨a34, a35⟩, hc2, hI2, b34, b35⟩ := lawI (p_write (g 34 0 (i + 1))) (by decide) rfl c0 (by omega) hI
          have e35b : g1 35 0 0 = T := by rw [a35]; exact e35
          refine o_invi (n := 1150) rfl rfl rfl rfl rfl rfl rfl rfl rfl rfl (hc1) ?_
          refine o_aload_n (n := 1151) rfl rfl rfl ?_
          refine o_aload_n (n := 1152) rfl rfl rfl ?_
          refine o_iload_n (n := 1153) rfl rfl rfl ?_
          refine o_iconst (n := 1154) rfl rfl ?_
          refine o_iadd (n := 1155) rfl rfl (by omega) ?_
          refine o_sald (n := 1156) rfl rfl (by omega) (by omega) ?_
          rw [a34]
          refine o_invi (n := 1159) rfl rfl rfl rfl rfl rfl rfl rfl rfl rfl (hc2) ?_
          refine o_icmp_eq (n := 1162) (t := 1201) rfl rfl rfl (fun q1159 => ?_) (fun q1159 => (absurd rfl q1159))
          refine o_iinc_3 (n := 1204) rfl rfl rfl (by omega) ?_
          refine o_goto (t := 18) rfl rfl ?_
          first
            | exact ih (i + 6) (c + 1) g2 r2 (by omega) (by omega) (by omega) (by omega) (by rw [b35]; exact e35) (by rw [b34]; exact hin) hI2
            | exact ih (i + 6) (c + 1) g r (by omega) (by omega) (by omega) (by omega) e35 hin (Iv_up hI)
        · change Ou _ 1164 _ _ _ _ _
          refine o_aload_n (n := 1165) rfl rfl rfl ?_
          refine o_aload_n (n := 1166) rfl rfl rfl ?_
          refine o_iload_n (n := 1167) rfl rfl rfl ?_
          refine o_iconst (n := 1168) rfl rfl ?_
          refine o_iadd (n := 1169) rfl rfl (by omega) ?_
          refine o_sald (n := 1170) rfl rfl (by omega) (by omega) ?_
          obtain ⟨x, g1, r1, g2, r2, hc1, ⟨a34, a35⟩, hc2, hI2, b34, b35⟩ := lawI (p_count (g 34 0 (i + 1))) (by decide) rfl c0 (by omega) hI
          have e35b : g1 35 0 0 = T := by rw [a35]; exact e35
          refine o_invi (n := 1173) rfl rfl rfl rfl rfl rfl rfl rfl rfl rfl (hc1) ?_
          refine o_aload_n (n := 1174) rfl rfl rfl ?_
          refine o_aload_n (n := 1175) rfl rfl rfl ?_
          refine o_iload_n (n := 1176) rfl rfl rfl ?_
          refine o_iconst (n := 1177) rfl rfl ?_
          refine o_iadd (n := 1178) rfl rfl (by omega) ?_
          refine o_sald (n := 1179) rfl rfl (by omega) (by omega) ?_
          rw [a34]
          refine o_invi (n := 1182) rfl rfl rfl rfl rfl rfl rfl rfl rfl rfl (hc2) ?_
          refine o_icmp_eq (n := 1185) (t := 1201) rfl rfl rfl (fun q1182 => ?_) (fun q1182 => (absurd rfl q1182))
          refine o_iinc_3 (n := 1204) rfl rfl rfl (by omega) ?_
          refine o_goto (t := 18) rfl rfl ?_
          first
            | exact ih (i + 6) (c + 1) g2 r2 (by omega) (by omega) (by omega) (by omega) (by rw [b35]; exact e35) (by rw [b34]; exact hin) hI2
            | exact ih (i + 6) (c + 1) g r (by omega) (by omega) (by omega) (by omega) e35 hin (Iv_up hI)
        · change Ou _ 1187 _ _ _ _ _
          refine o_aload_n (n := 1188) rfl rfl rfl ?_
          obtain ⟨x, g1, r1, g2, r2, hc1, ⟨a34, a35⟩, hc2, hI2, b34, b35⟩ := lawL (p_digest ) (by decide) rfl c0 (by omega) hI
          have e35b : g1 35 0 0 = T := by rw [a35]; exact e35
          refine o_invi (n := 1191) rfl rfl rfl rfl rfl rfl rfl rfl rfl rfl (hc1) ?_
          refine o_aload_n (n := 1192) rfl rfl rfl ?_
          refine o_invi (n := 1195) rfl rfl rfl rfl rfl rfl rfl rfl rfl rfl (hc2) ?_
          refine o_lcmp_eq (n := 1199) (t := 1201) rfl rfl rfl rfl (fun q1195 => ?_) (fun q1195 => (absurd rfl q1195))
          refine o_iinc_3 (n := 1204) rfl rfl rfl (by omega) ?_
          refine o_goto (t := 18) rfl rfl ?_
          first
            | exact ih (i + 6) (c + 1) g2 r2 (by omega) (by omega) (by omega) (by omega) (by rw [b35]; exact e35) (by rw [b34]; exact hin) hI2
            | exact ih (i + 6) (c + 1) g r (by omega) (by omega) (by omega) (by omega) e35 hin (Iv_up hI)
