/-! every row of code is what the bytes decode to, and what it names is what the links say. Written by wip/gen/gen06.py -/
def am_ln (i : Instr) : Nat := match i with
  | .iload _ => 2 | .istore _ => 2 | .aload _ => 2 | .astore _ => 2 | .lload _ => 2 | .lstore _ => 2 | .bipush _ => 2 | .ldc _ => 2 | .newarray _ => 2
  | .sipush _ => 3 | .ldc_w _ => 3 | .ldc2_w _ => 3 | .iinc _ _ => 3 | .ifCond _ _ => 3 | .if_icmp _ _ => 3 | .goto _ => 3 | .getfield _ => 3 | .putfield _ => 3 | .new _ => 3 | .anewarray _ => 3 | .invokevirtual _ => 3 | .invokestatic _ => 3 | .invokespecial _ => 3
  | .tableswitch _ _ _ _ => 0 | .lookupswitch _ _ => 0
  | _ => 1
abbrev am_rmk (m b : Nat) : Prop := b < 194 ∧ am_fr b + 1 ≤ am_fr m ∧ 8 + (am_ml b + 11) + am_lo b ≤ am_lo m
def am_aux (m pc : Nat) (i : Instr) (a : Int) (b c d : Nat) : Bool := match i with
  | .iconst v => decide (a = v ∧ -1 ≤ a ∧ a ≤ 5)
  | .bipush v => decide (a = v ∧ -128 ≤ a ∧ a ≤ 127)
  | .sipush v => decide (a = v ∧ -32768 ≤ a ∧ a ≤ 32767)
  | .ldc x => decide ((am_oc m, x, a) ∈ am_CI ∧ inI a)
  | .ldc_w x => decide ((am_oc m, x, a) ∈ am_CI ∧ inI a)
  | .ldc2_w x => decide ((am_oc m, x, a) ∈ am_CJ ∧ inL a)
  | .lconst x => decide (a = (x.val : Int))
  | .ifCond _ o => decide (a = (pc : Int) + o ∧ 0 ≤ a)
  | .if_icmp _ o => decide (a = (pc : Int) + o ∧ 0 ≤ a)
  | .goto o => decide (a = (pc : Int) + o ∧ 0 ≤ a)
  | .tableswitch dd lo hi os => decide (0 ≤ (pc : Int) + dd ∧ (os.size : Int) = hi - lo + 1 ∧ ∀ o ∈ os.toList, 0 ≤ (pc : Int) + o)
  | .lookupswitch dd ps => (ps.toList.zip (ps.toList.drop 1)).all (fun (a, next) => a.1 < next.1) && decide (0 ≤ (pc : Int) + dd ∧ ∀ q ∈ ps.toList, 0 ≤ (pc : Int) + q.2)
  | .getfield x => decide ((am_oc m, x, b, a.toNat) ∈ am_FL ∧ 0 ≤ a ∧ b < 9 ∧ a.toNat < am_nf b)
  | .putfield x => decide ((am_oc m, x, b, a.toNat) ∈ am_FL ∧ 0 ≤ a ∧ b < 9 ∧ a.toNat < am_nf b ∧ ((am_TT b a.toNat).2.2.2 = false ∨ ((am_TT b a.toNat).2.2.2 = true ∧ am_mk m = 2 ∧ (am_TT b a.toNat).1 = am_cn (am_oc m))))
  | .new x => decide (0 ≤ a ∧ (am_oc m, x, a.toNat) ∈ am_CK)
  | .anewarray x => decide ((am_oc m, x, a.toNat) ∈ am_CK ∧ (a = 2 ∨ a = 4 ∨ a = 3))
  | .newarray t => decide ((t = .int ∧ a = 0) ∨ (t = .long ∧ a = 1))
  | .invokevirtual x => decide (d = 0 ∧ (am_oc m, x, b) ∈ am_ML ∧ am_mk b = 0 ∧ c = am_np b + 1 ∧ am_rmk m b)
  | .invokestatic x => decide ((d = 1 ∧ (am_oc m, x, b) ∈ am_ML ∧ am_mk b = 1 ∧ c = am_np b ∧ am_rmk m b) ∨ (d = 5 ∧ (am_oc m, x) ∈ am_AC ∧ 1 ≤ am_fr m ∧ 26 ≤ am_lo m) ∨ (d = 6 ∧ (am_oc m, x) ∈ am_MX ∧ 1 ≤ am_fr m ∧ 21 ≤ am_lo m) ∨ (d = 7 ∧ (am_oc m, x) ∈ am_MM ∧ 1 ≤ am_fr m ∧ 21 ≤ am_lo m))
  | .invokespecial x => decide ((d = 2 ∧ (am_oc m, x, b) ∈ am_ML ∧ am_mk b = 2 ∧ c = am_np b + 1 ∧ am_rmk m b) ∨ (d = 3 ∧ (am_oc m, x, b) ∈ am_MN ∧ am_mk b = 2 ∧ c = am_np b + 1 ∧ am_rmk m b) ∨ (d = 4 ∧ (am_oc m, x) ∈ am_OI ∧ 1 ≤ am_fr m ∧ 20 ≤ am_lo m))
  | .ireturn => decide (am_rt m = some .int ∨ am_rt m = some .boolean)
  | .lreturn => decide (am_rt m = some .long)
  | .areturn => decide (am_rt m = some (.object "WordTerminator$Row"))
  | .return_ => decide (am_rt m = none)
  | _ => true
def am_chk (m pc : Nat) (e : EI) : Bool := decide (decode (am_by m) pc = .ok (e.1, e.2.1)) && ((decide (e.2.1 = am_ln e.1) || decide (am_ln e.1 = 0)) && am_aux m pc e.1 e.2.2.1 e.2.2.2.1 e.2.2.2.2.1 e.2.2.2.2.2)
def am_chkR (m lo n : Nat) : Bool := (List.range n).all (fun j => match am_code m (lo + j) with
  | none => true
  | some e => am_chk m (lo + j) e)
theorem am_chkR_use {m lo n pc : Nat} {e : EI} (hk : am_chkR m lo n = true) (h1 : lo ≤ pc) (h2 : pc < lo + n) (h : am_code m pc = some e) : am_chk m pc e = true := by
  have h3 := List.all_eq_true.mp hk (pc - lo) (List.mem_range.mpr (by omega))
  rw [show lo + (pc - lo) = pc by omega, h] at h3
  exact h3
set_option maxRecDepth 100000 in
theorem am_k0_0 : am_chkR 0 0 60 = true := by decide +kernel
theorem am_n0 (pc : Nat) (h : 60 ≤ pc) : am_code 0 pc = none := by
  show cond (Nat.ble 60 pc) none _ = none
  rw [Nat.ble_eq_true_of_le h]
  rfl
theorem am_q0 {pc : Nat} {e : EI} (h : am_code 0 pc = some e) : am_chk 0 pc e = true := by
  by_cases hs : 60 ≤ pc
  · rw [am_n0 pc hs] at h; cases h
  by_cases hl : pc < 60
  · exact am_chkR_use am_k0_0 (by omega) (by omega) h
  exact absurd hs (by omega)
set_option maxRecDepth 100000 in
theorem am_k1_0 : am_chkR 1 0 35 = true := by decide +kernel
theorem am_n1 (pc : Nat) (h : 35 ≤ pc) : am_code 1 pc = none := by
  show cond (Nat.ble 35 pc) none _ = none
  rw [Nat.ble_eq_true_of_le h]
  rfl
theorem am_q1 {pc : Nat} {e : EI} (h : am_code 1 pc = some e) : am_chk 1 pc e = true := by
  by_cases hs : 35 ≤ pc
  · rw [am_n1 pc hs] at h; cases h
  by_cases hl : pc < 35
  · exact am_chkR_use am_k1_0 (by omega) (by omega) h
  exact absurd hs (by omega)
set_option maxRecDepth 100000 in
theorem am_k2_0 : am_chkR 2 0 16 = true := by decide +kernel
theorem am_n2 (pc : Nat) (h : 16 ≤ pc) : am_code 2 pc = none := by
  show cond (Nat.ble 16 pc) none _ = none
  rw [Nat.ble_eq_true_of_le h]
  rfl
theorem am_q2 {pc : Nat} {e : EI} (h : am_code 2 pc = some e) : am_chk 2 pc e = true := by
  by_cases hs : 16 ≤ pc
  · rw [am_n2 pc hs] at h; cases h
  by_cases hl : pc < 16
  · exact am_chkR_use am_k2_0 (by omega) (by omega) h
  exact absurd hs (by omega)
set_option maxRecDepth 100000 in
theorem am_k3_0 : am_chkR 3 0 18 = true := by decide +kernel
theorem am_n3 (pc : Nat) (h : 18 ≤ pc) : am_code 3 pc = none := by
  show cond (Nat.ble 18 pc) none _ = none
  rw [Nat.ble_eq_true_of_le h]
  rfl
theorem am_q3 {pc : Nat} {e : EI} (h : am_code 3 pc = some e) : am_chk 3 pc e = true := by
  by_cases hs : 18 ≤ pc
  · rw [am_n3 pc hs] at h; cases h
  by_cases hl : pc < 18
  · exact am_chkR_use am_k3_0 (by omega) (by omega) h
  exact absurd hs (by omega)
set_option maxRecDepth 100000 in
theorem am_k4_0 : am_chkR 4 0 18 = true := by decide +kernel
theorem am_n4 (pc : Nat) (h : 18 ≤ pc) : am_code 4 pc = none := by
  show cond (Nat.ble 18 pc) none _ = none
  rw [Nat.ble_eq_true_of_le h]
  rfl
theorem am_q4 {pc : Nat} {e : EI} (h : am_code 4 pc = some e) : am_chk 4 pc e = true := by
  by_cases hs : 18 ≤ pc
  · rw [am_n4 pc hs] at h; cases h
  by_cases hl : pc < 18
  · exact am_chkR_use am_k4_0 (by omega) (by omega) h
  exact absurd hs (by omega)
set_option maxRecDepth 100000 in
theorem am_k5_0 : am_chkR 5 0 71 = true := by decide +kernel
theorem am_n5 (pc : Nat) (h : 71 ≤ pc) : am_code 5 pc = none := by
  show cond (Nat.ble 71 pc) none _ = none
  rw [Nat.ble_eq_true_of_le h]
  rfl
theorem am_q5 {pc : Nat} {e : EI} (h : am_code 5 pc = some e) : am_chk 5 pc e = true := by
  by_cases hs : 71 ≤ pc
  · rw [am_n5 pc hs] at h; cases h
  by_cases hl : pc < 71
  · exact am_chkR_use am_k5_0 (by omega) (by omega) h
  exact absurd hs (by omega)
set_option maxRecDepth 100000 in
theorem am_k6_0 : am_chkR 6 0 60 = true := by decide +kernel
theorem am_n6 (pc : Nat) (h : 60 ≤ pc) : am_code 6 pc = none := by
  show cond (Nat.ble 60 pc) none _ = none
  rw [Nat.ble_eq_true_of_le h]
  rfl
theorem am_q6 {pc : Nat} {e : EI} (h : am_code 6 pc = some e) : am_chk 6 pc e = true := by
  by_cases hs : 60 ≤ pc
  · rw [am_n6 pc hs] at h; cases h
  by_cases hl : pc < 60
  · exact am_chkR_use am_k6_0 (by omega) (by omega) h
  exact absurd hs (by omega)
set_option maxRecDepth 100000 in
theorem am_k7_0 : am_chkR 7 0 109 = true := by decide +kernel
theorem am_n7 (pc : Nat) (h : 109 ≤ pc) : am_code 7 pc = none := by
  show cond (Nat.ble 109 pc) none _ = none
  rw [Nat.ble_eq_true_of_le h]
  rfl
theorem am_q7 {pc : Nat} {e : EI} (h : am_code 7 pc = some e) : am_chk 7 pc e = true := by
  by_cases hs : 109 ≤ pc
  · rw [am_n7 pc hs] at h; cases h
  by_cases hl : pc < 109
  · exact am_chkR_use am_k7_0 (by omega) (by omega) h
  exact absurd hs (by omega)
set_option maxRecDepth 100000 in
theorem am_k8_0 : am_chkR 8 0 13 = true := by decide +kernel
theorem am_n8 (pc : Nat) (h : 13 ≤ pc) : am_code 8 pc = none := by
  show cond (Nat.ble 13 pc) none _ = none
  rw [Nat.ble_eq_true_of_le h]
  rfl
theorem am_q8 {pc : Nat} {e : EI} (h : am_code 8 pc = some e) : am_chk 8 pc e = true := by
  by_cases hs : 13 ≤ pc
  · rw [am_n8 pc hs] at h; cases h
  by_cases hl : pc < 13
  · exact am_chkR_use am_k8_0 (by omega) (by omega) h
  exact absurd hs (by omega)
set_option maxRecDepth 100000 in
theorem am_k9_0 : am_chkR 9 0 20 = true := by decide +kernel
theorem am_n9 (pc : Nat) (h : 20 ≤ pc) : am_code 9 pc = none := by
  show cond (Nat.ble 20 pc) none _ = none
  rw [Nat.ble_eq_true_of_le h]
  rfl
theorem am_q9 {pc : Nat} {e : EI} (h : am_code 9 pc = some e) : am_chk 9 pc e = true := by
  by_cases hs : 20 ≤ pc
  · rw [am_n9 pc hs] at h; cases h
  by_cases hl : pc < 20
  · exact am_chkR_use am_k9_0 (by omega) (by omega) h
  exact absurd hs (by omega)
set_option maxRecDepth 100000 in
theorem am_k10_0 : am_chkR 10 0 71 = true := by decide +kernel
theorem am_n10 (pc : Nat) (h : 71 ≤ pc) : am_code 10 pc = none := by
  show cond (Nat.ble 71 pc) none _ = none
  rw [Nat.ble_eq_true_of_le h]
  rfl
theorem am_q10 {pc : Nat} {e : EI} (h : am_code 10 pc = some e) : am_chk 10 pc e = true := by
  by_cases hs : 71 ≤ pc
  · rw [am_n10 pc hs] at h; cases h
  by_cases hl : pc < 71
  · exact am_chkR_use am_k10_0 (by omega) (by omega) h
  exact absurd hs (by omega)
set_option maxRecDepth 100000 in
theorem am_k11_0 : am_chkR 11 0 111 = true := by decide +kernel
theorem am_n11 (pc : Nat) (h : 111 ≤ pc) : am_code 11 pc = none := by
  show cond (Nat.ble 111 pc) none _ = none
  rw [Nat.ble_eq_true_of_le h]
  rfl
theorem am_q11 {pc : Nat} {e : EI} (h : am_code 11 pc = some e) : am_chk 11 pc e = true := by
  by_cases hs : 111 ≤ pc
  · rw [am_n11 pc hs] at h; cases h
  by_cases hl : pc < 111
  · exact am_chkR_use am_k11_0 (by omega) (by omega) h
  exact absurd hs (by omega)
set_option maxRecDepth 100000 in
theorem am_k12_0 : am_chkR 12 0 21 = true := by decide +kernel
theorem am_n12 (pc : Nat) (h : 21 ≤ pc) : am_code 12 pc = none := by
  show cond (Nat.ble 21 pc) none _ = none
  rw [Nat.ble_eq_true_of_le h]
  rfl
theorem am_q12 {pc : Nat} {e : EI} (h : am_code 12 pc = some e) : am_chk 12 pc e = true := by
  by_cases hs : 21 ≤ pc
  · rw [am_n12 pc hs] at h; cases h
  by_cases hl : pc < 21
  · exact am_chkR_use am_k12_0 (by omega) (by omega) h
  exact absurd hs (by omega)
set_option maxRecDepth 100000 in
theorem am_k13_0 : am_chkR 13 0 33 = true := by decide +kernel
theorem am_n13 (pc : Nat) (h : 33 ≤ pc) : am_code 13 pc = none := by
  show cond (Nat.ble 33 pc) none _ = none
  rw [Nat.ble_eq_true_of_le h]
  rfl
theorem am_q13 {pc : Nat} {e : EI} (h : am_code 13 pc = some e) : am_chk 13 pc e = true := by
  by_cases hs : 33 ≤ pc
  · rw [am_n13 pc hs] at h; cases h
  by_cases hl : pc < 33
  · exact am_chkR_use am_k13_0 (by omega) (by omega) h
  exact absurd hs (by omega)
set_option maxRecDepth 100000 in
theorem am_k14_0 : am_chkR 14 0 28 = true := by decide +kernel
theorem am_n14 (pc : Nat) (h : 28 ≤ pc) : am_code 14 pc = none := by
  show cond (Nat.ble 28 pc) none _ = none
  rw [Nat.ble_eq_true_of_le h]
  rfl
theorem am_q14 {pc : Nat} {e : EI} (h : am_code 14 pc = some e) : am_chk 14 pc e = true := by
  by_cases hs : 28 ≤ pc
  · rw [am_n14 pc hs] at h; cases h
  by_cases hl : pc < 28
  · exact am_chkR_use am_k14_0 (by omega) (by omega) h
  exact absurd hs (by omega)
set_option maxRecDepth 100000 in
theorem am_k15_0 : am_chkR 15 0 56 = true := by decide +kernel
theorem am_n15 (pc : Nat) (h : 56 ≤ pc) : am_code 15 pc = none := by
  show cond (Nat.ble 56 pc) none _ = none
  rw [Nat.ble_eq_true_of_le h]
  rfl
theorem am_q15 {pc : Nat} {e : EI} (h : am_code 15 pc = some e) : am_chk 15 pc e = true := by
  by_cases hs : 56 ≤ pc
  · rw [am_n15 pc hs] at h; cases h
  by_cases hl : pc < 56
  · exact am_chkR_use am_k15_0 (by omega) (by omega) h
  exact absurd hs (by omega)
set_option maxRecDepth 100000 in
theorem am_k16_0 : am_chkR 16 0 29 = true := by decide +kernel
theorem am_n16 (pc : Nat) (h : 29 ≤ pc) : am_code 16 pc = none := by
  show cond (Nat.ble 29 pc) none _ = none
  rw [Nat.ble_eq_true_of_le h]
  rfl
theorem am_q16 {pc : Nat} {e : EI} (h : am_code 16 pc = some e) : am_chk 16 pc e = true := by
  by_cases hs : 29 ≤ pc
  · rw [am_n16 pc hs] at h; cases h
  by_cases hl : pc < 29
  · exact am_chkR_use am_k16_0 (by omega) (by omega) h
  exact absurd hs (by omega)
set_option maxRecDepth 100000 in
theorem am_k17_0 : am_chkR 17 0 32 = true := by decide +kernel
theorem am_n17 (pc : Nat) (h : 32 ≤ pc) : am_code 17 pc = none := by
  show cond (Nat.ble 32 pc) none _ = none
  rw [Nat.ble_eq_true_of_le h]
  rfl
theorem am_q17 {pc : Nat} {e : EI} (h : am_code 17 pc = some e) : am_chk 17 pc e = true := by
  by_cases hs : 32 ≤ pc
  · rw [am_n17 pc hs] at h; cases h
  by_cases hl : pc < 32
  · exact am_chkR_use am_k17_0 (by omega) (by omega) h
  exact absurd hs (by omega)
set_option maxRecDepth 100000 in
theorem am_k18_0 : am_chkR 18 0 64 = true := by decide +kernel
theorem am_n18 (pc : Nat) (h : 64 ≤ pc) : am_code 18 pc = none := by
  show cond (Nat.ble 64 pc) none _ = none
  rw [Nat.ble_eq_true_of_le h]
  rfl
theorem am_q18 {pc : Nat} {e : EI} (h : am_code 18 pc = some e) : am_chk 18 pc e = true := by
  by_cases hs : 64 ≤ pc
  · rw [am_n18 pc hs] at h; cases h
  by_cases hl : pc < 64
  · exact am_chkR_use am_k18_0 (by omega) (by omega) h
  exact absurd hs (by omega)
set_option maxRecDepth 100000 in
theorem am_k19_0 : am_chkR 19 0 41 = true := by decide +kernel
theorem am_n19 (pc : Nat) (h : 41 ≤ pc) : am_code 19 pc = none := by
  show cond (Nat.ble 41 pc) none _ = none
  rw [Nat.ble_eq_true_of_le h]
  rfl
theorem am_q19 {pc : Nat} {e : EI} (h : am_code 19 pc = some e) : am_chk 19 pc e = true := by
  by_cases hs : 41 ≤ pc
  · rw [am_n19 pc hs] at h; cases h
  by_cases hl : pc < 41
  · exact am_chkR_use am_k19_0 (by omega) (by omega) h
  exact absurd hs (by omega)
set_option maxRecDepth 100000 in
theorem am_k20_0 : am_chkR 20 0 16 = true := by decide +kernel
theorem am_n20 (pc : Nat) (h : 16 ≤ pc) : am_code 20 pc = none := by
  show cond (Nat.ble 16 pc) none _ = none
  rw [Nat.ble_eq_true_of_le h]
  rfl
theorem am_q20 {pc : Nat} {e : EI} (h : am_code 20 pc = some e) : am_chk 20 pc e = true := by
  by_cases hs : 16 ≤ pc
  · rw [am_n20 pc hs] at h; cases h
  by_cases hl : pc < 16
  · exact am_chkR_use am_k20_0 (by omega) (by omega) h
  exact absurd hs (by omega)
set_option maxRecDepth 100000 in
theorem am_k21_0 : am_chkR 21 0 63 = true := by decide +kernel
theorem am_n21 (pc : Nat) (h : 63 ≤ pc) : am_code 21 pc = none := by
  show cond (Nat.ble 63 pc) none _ = none
  rw [Nat.ble_eq_true_of_le h]
  rfl
theorem am_q21 {pc : Nat} {e : EI} (h : am_code 21 pc = some e) : am_chk 21 pc e = true := by
  by_cases hs : 63 ≤ pc
  · rw [am_n21 pc hs] at h; cases h
  by_cases hl : pc < 63
  · exact am_chkR_use am_k21_0 (by omega) (by omega) h
  exact absurd hs (by omega)
set_option maxRecDepth 100000 in
theorem am_k22_0 : am_chkR 22 0 23 = true := by decide +kernel
theorem am_n22 (pc : Nat) (h : 23 ≤ pc) : am_code 22 pc = none := by
  show cond (Nat.ble 23 pc) none _ = none
  rw [Nat.ble_eq_true_of_le h]
  rfl
theorem am_q22 {pc : Nat} {e : EI} (h : am_code 22 pc = some e) : am_chk 22 pc e = true := by
  by_cases hs : 23 ≤ pc
  · rw [am_n22 pc hs] at h; cases h
  by_cases hl : pc < 23
  · exact am_chkR_use am_k22_0 (by omega) (by omega) h
  exact absurd hs (by omega)
set_option maxRecDepth 100000 in
theorem am_k23_0 : am_chkR 23 0 19 = true := by decide +kernel
theorem am_n23 (pc : Nat) (h : 19 ≤ pc) : am_code 23 pc = none := by
  show cond (Nat.ble 19 pc) none _ = none
  rw [Nat.ble_eq_true_of_le h]
  rfl
theorem am_q23 {pc : Nat} {e : EI} (h : am_code 23 pc = some e) : am_chk 23 pc e = true := by
  by_cases hs : 19 ≤ pc
  · rw [am_n23 pc hs] at h; cases h
  by_cases hl : pc < 19
  · exact am_chkR_use am_k23_0 (by omega) (by omega) h
  exact absurd hs (by omega)
set_option maxRecDepth 100000 in
theorem am_k24_0 : am_chkR 24 0 38 = true := by decide +kernel
theorem am_n24 (pc : Nat) (h : 38 ≤ pc) : am_code 24 pc = none := by
  show cond (Nat.ble 38 pc) none _ = none
  rw [Nat.ble_eq_true_of_le h]
  rfl
theorem am_q24 {pc : Nat} {e : EI} (h : am_code 24 pc = some e) : am_chk 24 pc e = true := by
  by_cases hs : 38 ≤ pc
  · rw [am_n24 pc hs] at h; cases h
  by_cases hl : pc < 38
  · exact am_chkR_use am_k24_0 (by omega) (by omega) h
  exact absurd hs (by omega)
set_option maxRecDepth 100000 in
theorem am_k25_0 : am_chkR 25 0 32 = true := by decide +kernel
theorem am_n25 (pc : Nat) (h : 32 ≤ pc) : am_code 25 pc = none := by
  show cond (Nat.ble 32 pc) none _ = none
  rw [Nat.ble_eq_true_of_le h]
  rfl
theorem am_q25 {pc : Nat} {e : EI} (h : am_code 25 pc = some e) : am_chk 25 pc e = true := by
  by_cases hs : 32 ≤ pc
  · rw [am_n25 pc hs] at h; cases h
  by_cases hl : pc < 32
  · exact am_chkR_use am_k25_0 (by omega) (by omega) h
  exact absurd hs (by omega)
set_option maxRecDepth 100000 in
theorem am_k26_0 : am_chkR 26 0 33 = true := by decide +kernel
theorem am_n26 (pc : Nat) (h : 33 ≤ pc) : am_code 26 pc = none := by
  show cond (Nat.ble 33 pc) none _ = none
  rw [Nat.ble_eq_true_of_le h]
  rfl
theorem am_q26 {pc : Nat} {e : EI} (h : am_code 26 pc = some e) : am_chk 26 pc e = true := by
  by_cases hs : 33 ≤ pc
  · rw [am_n26 pc hs] at h; cases h
  by_cases hl : pc < 33
  · exact am_chkR_use am_k26_0 (by omega) (by omega) h
  exact absurd hs (by omega)
set_option maxRecDepth 100000 in
theorem am_k27_0 : am_chkR 27 0 21 = true := by decide +kernel
theorem am_n27 (pc : Nat) (h : 21 ≤ pc) : am_code 27 pc = none := by
  show cond (Nat.ble 21 pc) none _ = none
  rw [Nat.ble_eq_true_of_le h]
  rfl
theorem am_q27 {pc : Nat} {e : EI} (h : am_code 27 pc = some e) : am_chk 27 pc e = true := by
  by_cases hs : 21 ≤ pc
  · rw [am_n27 pc hs] at h; cases h
  by_cases hl : pc < 21
  · exact am_chkR_use am_k27_0 (by omega) (by omega) h
  exact absurd hs (by omega)
set_option maxRecDepth 100000 in
theorem am_k28_0 : am_chkR 28 0 18 = true := by decide +kernel
theorem am_n28 (pc : Nat) (h : 18 ≤ pc) : am_code 28 pc = none := by
  show cond (Nat.ble 18 pc) none _ = none
  rw [Nat.ble_eq_true_of_le h]
  rfl
theorem am_q28 {pc : Nat} {e : EI} (h : am_code 28 pc = some e) : am_chk 28 pc e = true := by
  by_cases hs : 18 ≤ pc
  · rw [am_n28 pc hs] at h; cases h
  by_cases hl : pc < 18
  · exact am_chkR_use am_k28_0 (by omega) (by omega) h
  exact absurd hs (by omega)
set_option maxRecDepth 100000 in
theorem am_k29_0 : am_chkR 29 0 30 = true := by decide +kernel
theorem am_n29 (pc : Nat) (h : 30 ≤ pc) : am_code 29 pc = none := by
  show cond (Nat.ble 30 pc) none _ = none
  rw [Nat.ble_eq_true_of_le h]
  rfl
theorem am_q29 {pc : Nat} {e : EI} (h : am_code 29 pc = some e) : am_chk 29 pc e = true := by
  by_cases hs : 30 ≤ pc
  · rw [am_n29 pc hs] at h; cases h
  by_cases hl : pc < 30
  · exact am_chkR_use am_k29_0 (by omega) (by omega) h
  exact absurd hs (by omega)
set_option maxRecDepth 100000 in
theorem am_k30_0 : am_chkR 30 0 33 = true := by decide +kernel
theorem am_n30 (pc : Nat) (h : 33 ≤ pc) : am_code 30 pc = none := by
  show cond (Nat.ble 33 pc) none _ = none
  rw [Nat.ble_eq_true_of_le h]
  rfl
theorem am_q30 {pc : Nat} {e : EI} (h : am_code 30 pc = some e) : am_chk 30 pc e = true := by
  by_cases hs : 33 ≤ pc
  · rw [am_n30 pc hs] at h; cases h
  by_cases hl : pc < 33
  · exact am_chkR_use am_k30_0 (by omega) (by omega) h
  exact absurd hs (by omega)
set_option maxRecDepth 100000 in
theorem am_k31_0 : am_chkR 31 0 92 = true := by decide +kernel
theorem am_n31 (pc : Nat) (h : 92 ≤ pc) : am_code 31 pc = none := by
  show cond (Nat.ble 92 pc) none _ = none
  rw [Nat.ble_eq_true_of_le h]
  rfl
theorem am_q31 {pc : Nat} {e : EI} (h : am_code 31 pc = some e) : am_chk 31 pc e = true := by
  by_cases hs : 92 ≤ pc
  · rw [am_n31 pc hs] at h; cases h
  by_cases hl : pc < 92
  · exact am_chkR_use am_k31_0 (by omega) (by omega) h
  exact absurd hs (by omega)
set_option maxRecDepth 100000 in
theorem am_k32_0 : am_chkR 32 0 35 = true := by decide +kernel
theorem am_n32 (pc : Nat) (h : 35 ≤ pc) : am_code 32 pc = none := by
  show cond (Nat.ble 35 pc) none _ = none
  rw [Nat.ble_eq_true_of_le h]
  rfl
theorem am_q32 {pc : Nat} {e : EI} (h : am_code 32 pc = some e) : am_chk 32 pc e = true := by
  by_cases hs : 35 ≤ pc
  · rw [am_n32 pc hs] at h; cases h
  by_cases hl : pc < 35
  · exact am_chkR_use am_k32_0 (by omega) (by omega) h
  exact absurd hs (by omega)
set_option maxRecDepth 100000 in
theorem am_k33_0 : am_chkR 33 0 28 = true := by decide +kernel
theorem am_n33 (pc : Nat) (h : 28 ≤ pc) : am_code 33 pc = none := by
  show cond (Nat.ble 28 pc) none _ = none
  rw [Nat.ble_eq_true_of_le h]
  rfl
theorem am_q33 {pc : Nat} {e : EI} (h : am_code 33 pc = some e) : am_chk 33 pc e = true := by
  by_cases hs : 28 ≤ pc
  · rw [am_n33 pc hs] at h; cases h
  by_cases hl : pc < 28
  · exact am_chkR_use am_k33_0 (by omega) (by omega) h
  exact absurd hs (by omega)
set_option maxRecDepth 100000 in
theorem am_k34_0 : am_chkR 34 0 30 = true := by decide +kernel
theorem am_n34 (pc : Nat) (h : 30 ≤ pc) : am_code 34 pc = none := by
  show cond (Nat.ble 30 pc) none _ = none
  rw [Nat.ble_eq_true_of_le h]
  rfl
theorem am_q34 {pc : Nat} {e : EI} (h : am_code 34 pc = some e) : am_chk 34 pc e = true := by
  by_cases hs : 30 ≤ pc
  · rw [am_n34 pc hs] at h; cases h
  by_cases hl : pc < 30
  · exact am_chkR_use am_k34_0 (by omega) (by omega) h
  exact absurd hs (by omega)
set_option maxRecDepth 100000 in
theorem am_k35_0 : am_chkR 35 0 20 = true := by decide +kernel
theorem am_n35 (pc : Nat) (h : 20 ≤ pc) : am_code 35 pc = none := by
  show cond (Nat.ble 20 pc) none _ = none
  rw [Nat.ble_eq_true_of_le h]
  rfl
theorem am_q35 {pc : Nat} {e : EI} (h : am_code 35 pc = some e) : am_chk 35 pc e = true := by
  by_cases hs : 20 ≤ pc
  · rw [am_n35 pc hs] at h; cases h
  by_cases hl : pc < 20
  · exact am_chkR_use am_k35_0 (by omega) (by omega) h
  exact absurd hs (by omega)
set_option maxRecDepth 100000 in
theorem am_k36_0 : am_chkR 36 0 18 = true := by decide +kernel
theorem am_n36 (pc : Nat) (h : 18 ≤ pc) : am_code 36 pc = none := by
  show cond (Nat.ble 18 pc) none _ = none
  rw [Nat.ble_eq_true_of_le h]
  rfl
theorem am_q36 {pc : Nat} {e : EI} (h : am_code 36 pc = some e) : am_chk 36 pc e = true := by
  by_cases hs : 18 ≤ pc
  · rw [am_n36 pc hs] at h; cases h
  by_cases hl : pc < 18
  · exact am_chkR_use am_k36_0 (by omega) (by omega) h
  exact absurd hs (by omega)
set_option maxRecDepth 100000 in
theorem am_k37_0 : am_chkR 37 0 26 = true := by decide +kernel
theorem am_n37 (pc : Nat) (h : 26 ≤ pc) : am_code 37 pc = none := by
  show cond (Nat.ble 26 pc) none _ = none
  rw [Nat.ble_eq_true_of_le h]
  rfl
theorem am_q37 {pc : Nat} {e : EI} (h : am_code 37 pc = some e) : am_chk 37 pc e = true := by
  by_cases hs : 26 ≤ pc
  · rw [am_n37 pc hs] at h; cases h
  by_cases hl : pc < 26
  · exact am_chkR_use am_k37_0 (by omega) (by omega) h
  exact absurd hs (by omega)
set_option maxRecDepth 100000 in
theorem am_k38_0 : am_chkR 38 0 11 = true := by decide +kernel
theorem am_n38 (pc : Nat) (h : 11 ≤ pc) : am_code 38 pc = none := by
  show cond (Nat.ble 11 pc) none _ = none
  rw [Nat.ble_eq_true_of_le h]
  rfl
theorem am_q38 {pc : Nat} {e : EI} (h : am_code 38 pc = some e) : am_chk 38 pc e = true := by
  by_cases hs : 11 ≤ pc
  · rw [am_n38 pc hs] at h; cases h
  by_cases hl : pc < 11
  · exact am_chkR_use am_k38_0 (by omega) (by omega) h
  exact absurd hs (by omega)
set_option maxRecDepth 100000 in
theorem am_k39_0 : am_chkR 39 0 45 = true := by decide +kernel
theorem am_n39 (pc : Nat) (h : 45 ≤ pc) : am_code 39 pc = none := by
  show cond (Nat.ble 45 pc) none _ = none
  rw [Nat.ble_eq_true_of_le h]
  rfl
theorem am_q39 {pc : Nat} {e : EI} (h : am_code 39 pc = some e) : am_chk 39 pc e = true := by
  by_cases hs : 45 ≤ pc
  · rw [am_n39 pc hs] at h; cases h
  by_cases hl : pc < 45
  · exact am_chkR_use am_k39_0 (by omega) (by omega) h
  exact absurd hs (by omega)
set_option maxRecDepth 100000 in
theorem am_k40_0 : am_chkR 40 0 87 = true := by decide +kernel
theorem am_n40 (pc : Nat) (h : 87 ≤ pc) : am_code 40 pc = none := by
  show cond (Nat.ble 87 pc) none _ = none
  rw [Nat.ble_eq_true_of_le h]
  rfl
theorem am_q40 {pc : Nat} {e : EI} (h : am_code 40 pc = some e) : am_chk 40 pc e = true := by
  by_cases hs : 87 ≤ pc
  · rw [am_n40 pc hs] at h; cases h
  by_cases hl : pc < 87
  · exact am_chkR_use am_k40_0 (by omega) (by omega) h
  exact absurd hs (by omega)
set_option maxRecDepth 100000 in
theorem am_k41_0 : am_chkR 41 0 119 = true := by decide +kernel
theorem am_n41 (pc : Nat) (h : 119 ≤ pc) : am_code 41 pc = none := by
  show cond (Nat.ble 119 pc) none _ = none
  rw [Nat.ble_eq_true_of_le h]
  rfl
theorem am_q41 {pc : Nat} {e : EI} (h : am_code 41 pc = some e) : am_chk 41 pc e = true := by
  by_cases hs : 119 ≤ pc
  · rw [am_n41 pc hs] at h; cases h
  by_cases hl : pc < 119
  · exact am_chkR_use am_k41_0 (by omega) (by omega) h
  exact absurd hs (by omega)
set_option maxRecDepth 100000 in
theorem am_k42_0 : am_chkR 42 0 112 = true := by decide +kernel
theorem am_n42 (pc : Nat) (h : 112 ≤ pc) : am_code 42 pc = none := by
  show cond (Nat.ble 112 pc) none _ = none
  rw [Nat.ble_eq_true_of_le h]
  rfl
theorem am_q42 {pc : Nat} {e : EI} (h : am_code 42 pc = some e) : am_chk 42 pc e = true := by
  by_cases hs : 112 ≤ pc
  · rw [am_n42 pc hs] at h; cases h
  by_cases hl : pc < 112
  · exact am_chkR_use am_k42_0 (by omega) (by omega) h
  exact absurd hs (by omega)
set_option maxRecDepth 100000 in
theorem am_k43_0 : am_chkR 43 0 42 = true := by decide +kernel
theorem am_n43 (pc : Nat) (h : 42 ≤ pc) : am_code 43 pc = none := by
  show cond (Nat.ble 42 pc) none _ = none
  rw [Nat.ble_eq_true_of_le h]
  rfl
theorem am_q43 {pc : Nat} {e : EI} (h : am_code 43 pc = some e) : am_chk 43 pc e = true := by
  by_cases hs : 42 ≤ pc
  · rw [am_n43 pc hs] at h; cases h
  by_cases hl : pc < 42
  · exact am_chkR_use am_k43_0 (by omega) (by omega) h
  exact absurd hs (by omega)
set_option maxRecDepth 100000 in
theorem am_k44_0 : am_chkR 44 0 160 = true := by decide +kernel
set_option maxRecDepth 100000 in
theorem am_k44_160 : am_chkR 44 160 30 = true := by decide +kernel
theorem am_n44 (pc : Nat) (h : 190 ≤ pc) : am_code 44 pc = none := by
  show cond (Nat.ble 190 pc) none _ = none
  rw [Nat.ble_eq_true_of_le h]
  rfl
theorem am_q44 {pc : Nat} {e : EI} (h : am_code 44 pc = some e) : am_chk 44 pc e = true := by
  by_cases hs : 190 ≤ pc
  · rw [am_n44 pc hs] at h; cases h
  by_cases hl : pc < 160
  · exact am_chkR_use am_k44_0 (by omega) (by omega) h
  by_cases hl : pc < 190
  · exact am_chkR_use am_k44_160 (by omega) (by omega) h
  exact absurd hs (by omega)
set_option maxRecDepth 100000 in
theorem am_k45_0 : am_chkR 45 0 45 = true := by decide +kernel
theorem am_n45 (pc : Nat) (h : 45 ≤ pc) : am_code 45 pc = none := by
  show cond (Nat.ble 45 pc) none _ = none
  rw [Nat.ble_eq_true_of_le h]
  rfl
theorem am_q45 {pc : Nat} {e : EI} (h : am_code 45 pc = some e) : am_chk 45 pc e = true := by
  by_cases hs : 45 ≤ pc
  · rw [am_n45 pc hs] at h; cases h
  by_cases hl : pc < 45
  · exact am_chkR_use am_k45_0 (by omega) (by omega) h
  exact absurd hs (by omega)
set_option maxRecDepth 100000 in
theorem am_k46_0 : am_chkR 46 0 45 = true := by decide +kernel
theorem am_n46 (pc : Nat) (h : 45 ≤ pc) : am_code 46 pc = none := by
  show cond (Nat.ble 45 pc) none _ = none
  rw [Nat.ble_eq_true_of_le h]
  rfl
theorem am_q46 {pc : Nat} {e : EI} (h : am_code 46 pc = some e) : am_chk 46 pc e = true := by
  by_cases hs : 45 ≤ pc
  · rw [am_n46 pc hs] at h; cases h
  by_cases hl : pc < 45
  · exact am_chkR_use am_k46_0 (by omega) (by omega) h
  exact absurd hs (by omega)
set_option maxRecDepth 100000 in
theorem am_k47_0 : am_chkR 47 0 18 = true := by decide +kernel
theorem am_n47 (pc : Nat) (h : 18 ≤ pc) : am_code 47 pc = none := by
  show cond (Nat.ble 18 pc) none _ = none
  rw [Nat.ble_eq_true_of_le h]
  rfl
theorem am_q47 {pc : Nat} {e : EI} (h : am_code 47 pc = some e) : am_chk 47 pc e = true := by
  by_cases hs : 18 ≤ pc
  · rw [am_n47 pc hs] at h; cases h
  by_cases hl : pc < 18
  · exact am_chkR_use am_k47_0 (by omega) (by omega) h
  exact absurd hs (by omega)
set_option maxRecDepth 100000 in
theorem am_k48_0 : am_chkR 48 0 55 = true := by decide +kernel
theorem am_n48 (pc : Nat) (h : 55 ≤ pc) : am_code 48 pc = none := by
  show cond (Nat.ble 55 pc) none _ = none
  rw [Nat.ble_eq_true_of_le h]
  rfl
theorem am_q48 {pc : Nat} {e : EI} (h : am_code 48 pc = some e) : am_chk 48 pc e = true := by
  by_cases hs : 55 ≤ pc
  · rw [am_n48 pc hs] at h; cases h
  by_cases hl : pc < 55
  · exact am_chkR_use am_k48_0 (by omega) (by omega) h
  exact absurd hs (by omega)
set_option maxRecDepth 100000 in
theorem am_k49_0 : am_chkR 49 0 85 = true := by decide +kernel
theorem am_n49 (pc : Nat) (h : 85 ≤ pc) : am_code 49 pc = none := by
  show cond (Nat.ble 85 pc) none _ = none
  rw [Nat.ble_eq_true_of_le h]
  rfl
theorem am_q49 {pc : Nat} {e : EI} (h : am_code 49 pc = some e) : am_chk 49 pc e = true := by
  by_cases hs : 85 ≤ pc
  · rw [am_n49 pc hs] at h; cases h
  by_cases hl : pc < 85
  · exact am_chkR_use am_k49_0 (by omega) (by omega) h
  exact absurd hs (by omega)
set_option maxRecDepth 100000 in
theorem am_k50_0 : am_chkR 50 0 87 = true := by decide +kernel
theorem am_n50 (pc : Nat) (h : 87 ≤ pc) : am_code 50 pc = none := by
  show cond (Nat.ble 87 pc) none _ = none
  rw [Nat.ble_eq_true_of_le h]
  rfl
theorem am_q50 {pc : Nat} {e : EI} (h : am_code 50 pc = some e) : am_chk 50 pc e = true := by
  by_cases hs : 87 ≤ pc
  · rw [am_n50 pc hs] at h; cases h
  by_cases hl : pc < 87
  · exact am_chkR_use am_k50_0 (by omega) (by omega) h
  exact absurd hs (by omega)
set_option maxRecDepth 100000 in
theorem am_k51_0 : am_chkR 51 0 44 = true := by decide +kernel
theorem am_n51 (pc : Nat) (h : 44 ≤ pc) : am_code 51 pc = none := by
  show cond (Nat.ble 44 pc) none _ = none
  rw [Nat.ble_eq_true_of_le h]
  rfl
theorem am_q51 {pc : Nat} {e : EI} (h : am_code 51 pc = some e) : am_chk 51 pc e = true := by
  by_cases hs : 44 ≤ pc
  · rw [am_n51 pc hs] at h; cases h
  by_cases hl : pc < 44
  · exact am_chkR_use am_k51_0 (by omega) (by omega) h
  exact absurd hs (by omega)
set_option maxRecDepth 100000 in
theorem am_k52_0 : am_chkR 52 0 154 = true := by decide +kernel
theorem am_n52 (pc : Nat) (h : 154 ≤ pc) : am_code 52 pc = none := by
  show cond (Nat.ble 154 pc) none _ = none
  rw [Nat.ble_eq_true_of_le h]
  rfl
theorem am_q52 {pc : Nat} {e : EI} (h : am_code 52 pc = some e) : am_chk 52 pc e = true := by
  by_cases hs : 154 ≤ pc
  · rw [am_n52 pc hs] at h; cases h
  by_cases hl : pc < 154
  · exact am_chkR_use am_k52_0 (by omega) (by omega) h
  exact absurd hs (by omega)
set_option maxRecDepth 100000 in
theorem am_k53_0 : am_chkR 53 0 30 = true := by decide +kernel
theorem am_n53 (pc : Nat) (h : 30 ≤ pc) : am_code 53 pc = none := by
  show cond (Nat.ble 30 pc) none _ = none
  rw [Nat.ble_eq_true_of_le h]
  rfl
theorem am_q53 {pc : Nat} {e : EI} (h : am_code 53 pc = some e) : am_chk 53 pc e = true := by
  by_cases hs : 30 ≤ pc
  · rw [am_n53 pc hs] at h; cases h
  by_cases hl : pc < 30
  · exact am_chkR_use am_k53_0 (by omega) (by omega) h
  exact absurd hs (by omega)
set_option maxRecDepth 100000 in
theorem am_k54_0 : am_chkR 54 0 31 = true := by decide +kernel
theorem am_n54 (pc : Nat) (h : 31 ≤ pc) : am_code 54 pc = none := by
  show cond (Nat.ble 31 pc) none _ = none
  rw [Nat.ble_eq_true_of_le h]
  rfl
theorem am_q54 {pc : Nat} {e : EI} (h : am_code 54 pc = some e) : am_chk 54 pc e = true := by
  by_cases hs : 31 ≤ pc
  · rw [am_n54 pc hs] at h; cases h
  by_cases hl : pc < 31
  · exact am_chkR_use am_k54_0 (by omega) (by omega) h
  exact absurd hs (by omega)
set_option maxRecDepth 100000 in
theorem am_k55_0 : am_chkR 55 0 48 = true := by decide +kernel
theorem am_n55 (pc : Nat) (h : 48 ≤ pc) : am_code 55 pc = none := by
  show cond (Nat.ble 48 pc) none _ = none
  rw [Nat.ble_eq_true_of_le h]
  rfl
theorem am_q55 {pc : Nat} {e : EI} (h : am_code 55 pc = some e) : am_chk 55 pc e = true := by
  by_cases hs : 48 ≤ pc
  · rw [am_n55 pc hs] at h; cases h
  by_cases hl : pc < 48
  · exact am_chkR_use am_k55_0 (by omega) (by omega) h
  exact absurd hs (by omega)
set_option maxRecDepth 100000 in
theorem am_k56_0 : am_chkR 56 0 24 = true := by decide +kernel
theorem am_n56 (pc : Nat) (h : 24 ≤ pc) : am_code 56 pc = none := by
  show cond (Nat.ble 24 pc) none _ = none
  rw [Nat.ble_eq_true_of_le h]
  rfl
theorem am_q56 {pc : Nat} {e : EI} (h : am_code 56 pc = some e) : am_chk 56 pc e = true := by
  by_cases hs : 24 ≤ pc
  · rw [am_n56 pc hs] at h; cases h
  by_cases hl : pc < 24
  · exact am_chkR_use am_k56_0 (by omega) (by omega) h
  exact absurd hs (by omega)
set_option maxRecDepth 100000 in
theorem am_k57_0 : am_chkR 57 0 134 = true := by decide +kernel
theorem am_n57 (pc : Nat) (h : 134 ≤ pc) : am_code 57 pc = none := by
  show cond (Nat.ble 134 pc) none _ = none
  rw [Nat.ble_eq_true_of_le h]
  rfl
theorem am_q57 {pc : Nat} {e : EI} (h : am_code 57 pc = some e) : am_chk 57 pc e = true := by
  by_cases hs : 134 ≤ pc
  · rw [am_n57 pc hs] at h; cases h
  by_cases hl : pc < 134
  · exact am_chkR_use am_k57_0 (by omega) (by omega) h
  exact absurd hs (by omega)
set_option maxRecDepth 100000 in
theorem am_k58_0 : am_chkR 58 0 15 = true := by decide +kernel
theorem am_n58 (pc : Nat) (h : 15 ≤ pc) : am_code 58 pc = none := by
  show cond (Nat.ble 15 pc) none _ = none
  rw [Nat.ble_eq_true_of_le h]
  rfl
theorem am_q58 {pc : Nat} {e : EI} (h : am_code 58 pc = some e) : am_chk 58 pc e = true := by
  by_cases hs : 15 ≤ pc
  · rw [am_n58 pc hs] at h; cases h
  by_cases hl : pc < 15
  · exact am_chkR_use am_k58_0 (by omega) (by omega) h
  exact absurd hs (by omega)
set_option maxRecDepth 100000 in
theorem am_k59_0 : am_chkR 59 0 88 = true := by decide +kernel
theorem am_n59 (pc : Nat) (h : 88 ≤ pc) : am_code 59 pc = none := by
  show cond (Nat.ble 88 pc) none _ = none
  rw [Nat.ble_eq_true_of_le h]
  rfl
theorem am_q59 {pc : Nat} {e : EI} (h : am_code 59 pc = some e) : am_chk 59 pc e = true := by
  by_cases hs : 88 ≤ pc
  · rw [am_n59 pc hs] at h; cases h
  by_cases hl : pc < 88
  · exact am_chkR_use am_k59_0 (by omega) (by omega) h
  exact absurd hs (by omega)
set_option maxRecDepth 100000 in
theorem am_k60_0 : am_chkR 60 0 27 = true := by decide +kernel
theorem am_n60 (pc : Nat) (h : 27 ≤ pc) : am_code 60 pc = none := by
  show cond (Nat.ble 27 pc) none _ = none
  rw [Nat.ble_eq_true_of_le h]
  rfl
theorem am_q60 {pc : Nat} {e : EI} (h : am_code 60 pc = some e) : am_chk 60 pc e = true := by
  by_cases hs : 27 ≤ pc
  · rw [am_n60 pc hs] at h; cases h
  by_cases hl : pc < 27
  · exact am_chkR_use am_k60_0 (by omega) (by omega) h
  exact absurd hs (by omega)
set_option maxRecDepth 100000 in
theorem am_k61_0 : am_chkR 61 0 25 = true := by decide +kernel
theorem am_n61 (pc : Nat) (h : 25 ≤ pc) : am_code 61 pc = none := by
  show cond (Nat.ble 25 pc) none _ = none
  rw [Nat.ble_eq_true_of_le h]
  rfl
theorem am_q61 {pc : Nat} {e : EI} (h : am_code 61 pc = some e) : am_chk 61 pc e = true := by
  by_cases hs : 25 ≤ pc
  · rw [am_n61 pc hs] at h; cases h
  by_cases hl : pc < 25
  · exact am_chkR_use am_k61_0 (by omega) (by omega) h
  exact absurd hs (by omega)
set_option maxRecDepth 100000 in
theorem am_k62_0 : am_chkR 62 0 111 = true := by decide +kernel
theorem am_n62 (pc : Nat) (h : 111 ≤ pc) : am_code 62 pc = none := by
  show cond (Nat.ble 111 pc) none _ = none
  rw [Nat.ble_eq_true_of_le h]
  rfl
theorem am_q62 {pc : Nat} {e : EI} (h : am_code 62 pc = some e) : am_chk 62 pc e = true := by
  by_cases hs : 111 ≤ pc
  · rw [am_n62 pc hs] at h; cases h
  by_cases hl : pc < 111
  · exact am_chkR_use am_k62_0 (by omega) (by omega) h
  exact absurd hs (by omega)
set_option maxRecDepth 100000 in
theorem am_k63_0 : am_chkR 63 0 39 = true := by decide +kernel
theorem am_n63 (pc : Nat) (h : 39 ≤ pc) : am_code 63 pc = none := by
  show cond (Nat.ble 39 pc) none _ = none
  rw [Nat.ble_eq_true_of_le h]
  rfl
theorem am_q63 {pc : Nat} {e : EI} (h : am_code 63 pc = some e) : am_chk 63 pc e = true := by
  by_cases hs : 39 ≤ pc
  · rw [am_n63 pc hs] at h; cases h
  by_cases hl : pc < 39
  · exact am_chkR_use am_k63_0 (by omega) (by omega) h
  exact absurd hs (by omega)
set_option maxRecDepth 100000 in
theorem am_k64_0 : am_chkR 64 0 123 = true := by decide +kernel
theorem am_n64 (pc : Nat) (h : 123 ≤ pc) : am_code 64 pc = none := by
  show cond (Nat.ble 123 pc) none _ = none
  rw [Nat.ble_eq_true_of_le h]
  rfl
theorem am_q64 {pc : Nat} {e : EI} (h : am_code 64 pc = some e) : am_chk 64 pc e = true := by
  by_cases hs : 123 ≤ pc
  · rw [am_n64 pc hs] at h; cases h
  by_cases hl : pc < 123
  · exact am_chkR_use am_k64_0 (by omega) (by omega) h
  exact absurd hs (by omega)
set_option maxRecDepth 100000 in
theorem am_k65_0 : am_chkR 65 0 16 = true := by decide +kernel
theorem am_n65 (pc : Nat) (h : 16 ≤ pc) : am_code 65 pc = none := by
  show cond (Nat.ble 16 pc) none _ = none
  rw [Nat.ble_eq_true_of_le h]
  rfl
theorem am_q65 {pc : Nat} {e : EI} (h : am_code 65 pc = some e) : am_chk 65 pc e = true := by
  by_cases hs : 16 ≤ pc
  · rw [am_n65 pc hs] at h; cases h
  by_cases hl : pc < 16
  · exact am_chkR_use am_k65_0 (by omega) (by omega) h
  exact absurd hs (by omega)
set_option maxRecDepth 100000 in
theorem am_k66_0 : am_chkR 66 0 37 = true := by decide +kernel
theorem am_n66 (pc : Nat) (h : 37 ≤ pc) : am_code 66 pc = none := by
  show cond (Nat.ble 37 pc) none _ = none
  rw [Nat.ble_eq_true_of_le h]
  rfl
theorem am_q66 {pc : Nat} {e : EI} (h : am_code 66 pc = some e) : am_chk 66 pc e = true := by
  by_cases hs : 37 ≤ pc
  · rw [am_n66 pc hs] at h; cases h
  by_cases hl : pc < 37
  · exact am_chkR_use am_k66_0 (by omega) (by omega) h
  exact absurd hs (by omega)
set_option maxRecDepth 100000 in
theorem am_k67_0 : am_chkR 67 0 75 = true := by decide +kernel
theorem am_n67 (pc : Nat) (h : 75 ≤ pc) : am_code 67 pc = none := by
  show cond (Nat.ble 75 pc) none _ = none
  rw [Nat.ble_eq_true_of_le h]
  rfl
theorem am_q67 {pc : Nat} {e : EI} (h : am_code 67 pc = some e) : am_chk 67 pc e = true := by
  by_cases hs : 75 ≤ pc
  · rw [am_n67 pc hs] at h; cases h
  by_cases hl : pc < 75
  · exact am_chkR_use am_k67_0 (by omega) (by omega) h
  exact absurd hs (by omega)
set_option maxRecDepth 100000 in
theorem am_k68_0 : am_chkR 68 0 96 = true := by decide +kernel
theorem am_n68 (pc : Nat) (h : 96 ≤ pc) : am_code 68 pc = none := by
  show cond (Nat.ble 96 pc) none _ = none
  rw [Nat.ble_eq_true_of_le h]
  rfl
theorem am_q68 {pc : Nat} {e : EI} (h : am_code 68 pc = some e) : am_chk 68 pc e = true := by
  by_cases hs : 96 ≤ pc
  · rw [am_n68 pc hs] at h; cases h
  by_cases hl : pc < 96
  · exact am_chkR_use am_k68_0 (by omega) (by omega) h
  exact absurd hs (by omega)
set_option maxRecDepth 100000 in
theorem am_k69_0 : am_chkR 69 0 48 = true := by decide +kernel
theorem am_n69 (pc : Nat) (h : 48 ≤ pc) : am_code 69 pc = none := by
  show cond (Nat.ble 48 pc) none _ = none
  rw [Nat.ble_eq_true_of_le h]
  rfl
theorem am_q69 {pc : Nat} {e : EI} (h : am_code 69 pc = some e) : am_chk 69 pc e = true := by
  by_cases hs : 48 ≤ pc
  · rw [am_n69 pc hs] at h; cases h
  by_cases hl : pc < 48
  · exact am_chkR_use am_k69_0 (by omega) (by omega) h
  exact absurd hs (by omega)
set_option maxRecDepth 100000 in
theorem am_k70_0 : am_chkR 70 0 37 = true := by decide +kernel
theorem am_n70 (pc : Nat) (h : 37 ≤ pc) : am_code 70 pc = none := by
  show cond (Nat.ble 37 pc) none _ = none
  rw [Nat.ble_eq_true_of_le h]
  rfl
theorem am_q70 {pc : Nat} {e : EI} (h : am_code 70 pc = some e) : am_chk 70 pc e = true := by
  by_cases hs : 37 ≤ pc
  · rw [am_n70 pc hs] at h; cases h
  by_cases hl : pc < 37
  · exact am_chkR_use am_k70_0 (by omega) (by omega) h
  exact absurd hs (by omega)
set_option maxRecDepth 100000 in
theorem am_k71_0 : am_chkR 71 0 23 = true := by decide +kernel
theorem am_n71 (pc : Nat) (h : 23 ≤ pc) : am_code 71 pc = none := by
  show cond (Nat.ble 23 pc) none _ = none
  rw [Nat.ble_eq_true_of_le h]
  rfl
theorem am_q71 {pc : Nat} {e : EI} (h : am_code 71 pc = some e) : am_chk 71 pc e = true := by
  by_cases hs : 23 ≤ pc
  · rw [am_n71 pc hs] at h; cases h
  by_cases hl : pc < 23
  · exact am_chkR_use am_k71_0 (by omega) (by omega) h
  exact absurd hs (by omega)
set_option maxRecDepth 100000 in
theorem am_k72_0 : am_chkR 72 0 89 = true := by decide +kernel
theorem am_n72 (pc : Nat) (h : 89 ≤ pc) : am_code 72 pc = none := by
  show cond (Nat.ble 89 pc) none _ = none
  rw [Nat.ble_eq_true_of_le h]
  rfl
theorem am_q72 {pc : Nat} {e : EI} (h : am_code 72 pc = some e) : am_chk 72 pc e = true := by
  by_cases hs : 89 ≤ pc
  · rw [am_n72 pc hs] at h; cases h
  by_cases hl : pc < 89
  · exact am_chkR_use am_k72_0 (by omega) (by omega) h
  exact absurd hs (by omega)
set_option maxRecDepth 100000 in
theorem am_k73_0 : am_chkR 73 0 46 = true := by decide +kernel
theorem am_n73 (pc : Nat) (h : 46 ≤ pc) : am_code 73 pc = none := by
  show cond (Nat.ble 46 pc) none _ = none
  rw [Nat.ble_eq_true_of_le h]
  rfl
theorem am_q73 {pc : Nat} {e : EI} (h : am_code 73 pc = some e) : am_chk 73 pc e = true := by
  by_cases hs : 46 ≤ pc
  · rw [am_n73 pc hs] at h; cases h
  by_cases hl : pc < 46
  · exact am_chkR_use am_k73_0 (by omega) (by omega) h
  exact absurd hs (by omega)
set_option maxRecDepth 100000 in
theorem am_k74_0 : am_chkR 74 0 49 = true := by decide +kernel
theorem am_n74 (pc : Nat) (h : 49 ≤ pc) : am_code 74 pc = none := by
  show cond (Nat.ble 49 pc) none _ = none
  rw [Nat.ble_eq_true_of_le h]
  rfl
theorem am_q74 {pc : Nat} {e : EI} (h : am_code 74 pc = some e) : am_chk 74 pc e = true := by
  by_cases hs : 49 ≤ pc
  · rw [am_n74 pc hs] at h; cases h
  by_cases hl : pc < 49
  · exact am_chkR_use am_k74_0 (by omega) (by omega) h
  exact absurd hs (by omega)
set_option maxRecDepth 100000 in
theorem am_k75_0 : am_chkR 75 0 56 = true := by decide +kernel
theorem am_n75 (pc : Nat) (h : 56 ≤ pc) : am_code 75 pc = none := by
  show cond (Nat.ble 56 pc) none _ = none
  rw [Nat.ble_eq_true_of_le h]
  rfl
theorem am_q75 {pc : Nat} {e : EI} (h : am_code 75 pc = some e) : am_chk 75 pc e = true := by
  by_cases hs : 56 ≤ pc
  · rw [am_n75 pc hs] at h; cases h
  by_cases hl : pc < 56
  · exact am_chkR_use am_k75_0 (by omega) (by omega) h
  exact absurd hs (by omega)
set_option maxRecDepth 100000 in
theorem am_k76_0 : am_chkR 76 0 58 = true := by decide +kernel
theorem am_n76 (pc : Nat) (h : 58 ≤ pc) : am_code 76 pc = none := by
  show cond (Nat.ble 58 pc) none _ = none
  rw [Nat.ble_eq_true_of_le h]
  rfl
theorem am_q76 {pc : Nat} {e : EI} (h : am_code 76 pc = some e) : am_chk 76 pc e = true := by
  by_cases hs : 58 ≤ pc
  · rw [am_n76 pc hs] at h; cases h
  by_cases hl : pc < 58
  · exact am_chkR_use am_k76_0 (by omega) (by omega) h
  exact absurd hs (by omega)
set_option maxRecDepth 100000 in
theorem am_k77_0 : am_chkR 77 0 125 = true := by decide +kernel
theorem am_n77 (pc : Nat) (h : 125 ≤ pc) : am_code 77 pc = none := by
  show cond (Nat.ble 125 pc) none _ = none
  rw [Nat.ble_eq_true_of_le h]
  rfl
theorem am_q77 {pc : Nat} {e : EI} (h : am_code 77 pc = some e) : am_chk 77 pc e = true := by
  by_cases hs : 125 ≤ pc
  · rw [am_n77 pc hs] at h; cases h
  by_cases hl : pc < 125
  · exact am_chkR_use am_k77_0 (by omega) (by omega) h
  exact absurd hs (by omega)
set_option maxRecDepth 100000 in
theorem am_k78_0 : am_chkR 78 0 83 = true := by decide +kernel
theorem am_n78 (pc : Nat) (h : 83 ≤ pc) : am_code 78 pc = none := by
  show cond (Nat.ble 83 pc) none _ = none
  rw [Nat.ble_eq_true_of_le h]
  rfl
theorem am_q78 {pc : Nat} {e : EI} (h : am_code 78 pc = some e) : am_chk 78 pc e = true := by
  by_cases hs : 83 ≤ pc
  · rw [am_n78 pc hs] at h; cases h
  by_cases hl : pc < 83
  · exact am_chkR_use am_k78_0 (by omega) (by omega) h
  exact absurd hs (by omega)
set_option maxRecDepth 100000 in
theorem am_k79_0 : am_chkR 79 0 109 = true := by decide +kernel
theorem am_n79 (pc : Nat) (h : 109 ≤ pc) : am_code 79 pc = none := by
  show cond (Nat.ble 109 pc) none _ = none
  rw [Nat.ble_eq_true_of_le h]
  rfl
theorem am_q79 {pc : Nat} {e : EI} (h : am_code 79 pc = some e) : am_chk 79 pc e = true := by
  by_cases hs : 109 ≤ pc
  · rw [am_n79 pc hs] at h; cases h
  by_cases hl : pc < 109
  · exact am_chkR_use am_k79_0 (by omega) (by omega) h
  exact absurd hs (by omega)
set_option maxRecDepth 100000 in
theorem am_k80_0 : am_chkR 80 0 160 = true := by decide +kernel
set_option maxRecDepth 100000 in
theorem am_k80_160 : am_chkR 80 160 20 = true := by decide +kernel
theorem am_n80 (pc : Nat) (h : 180 ≤ pc) : am_code 80 pc = none := by
  show cond (Nat.ble 180 pc) none _ = none
  rw [Nat.ble_eq_true_of_le h]
  rfl
theorem am_q80 {pc : Nat} {e : EI} (h : am_code 80 pc = some e) : am_chk 80 pc e = true := by
  by_cases hs : 180 ≤ pc
  · rw [am_n80 pc hs] at h; cases h
  by_cases hl : pc < 160
  · exact am_chkR_use am_k80_0 (by omega) (by omega) h
  by_cases hl : pc < 180
  · exact am_chkR_use am_k80_160 (by omega) (by omega) h
  exact absurd hs (by omega)
set_option maxRecDepth 100000 in
theorem am_k81_0 : am_chkR 81 0 103 = true := by decide +kernel
theorem am_n81 (pc : Nat) (h : 103 ≤ pc) : am_code 81 pc = none := by
  show cond (Nat.ble 103 pc) none _ = none
  rw [Nat.ble_eq_true_of_le h]
  rfl
theorem am_q81 {pc : Nat} {e : EI} (h : am_code 81 pc = some e) : am_chk 81 pc e = true := by
  by_cases hs : 103 ≤ pc
  · rw [am_n81 pc hs] at h; cases h
  by_cases hl : pc < 103
  · exact am_chkR_use am_k81_0 (by omega) (by omega) h
  exact absurd hs (by omega)
set_option maxRecDepth 100000 in
theorem am_k82_0 : am_chkR 82 0 67 = true := by decide +kernel
theorem am_n82 (pc : Nat) (h : 67 ≤ pc) : am_code 82 pc = none := by
  show cond (Nat.ble 67 pc) none _ = none
  rw [Nat.ble_eq_true_of_le h]
  rfl
theorem am_q82 {pc : Nat} {e : EI} (h : am_code 82 pc = some e) : am_chk 82 pc e = true := by
  by_cases hs : 67 ≤ pc
  · rw [am_n82 pc hs] at h; cases h
  by_cases hl : pc < 67
  · exact am_chkR_use am_k82_0 (by omega) (by omega) h
  exact absurd hs (by omega)
set_option maxRecDepth 100000 in
theorem am_k83_0 : am_chkR 83 0 9 = true := by decide +kernel
theorem am_n83 (pc : Nat) (h : 9 ≤ pc) : am_code 83 pc = none := by
  show cond (Nat.ble 9 pc) none _ = none
  rw [Nat.ble_eq_true_of_le h]
  rfl
theorem am_q83 {pc : Nat} {e : EI} (h : am_code 83 pc = some e) : am_chk 83 pc e = true := by
  by_cases hs : 9 ≤ pc
  · rw [am_n83 pc hs] at h; cases h
  by_cases hl : pc < 9
  · exact am_chkR_use am_k83_0 (by omega) (by omega) h
  exact absurd hs (by omega)
set_option maxRecDepth 100000 in
theorem am_k84_0 : am_chkR 84 0 10 = true := by decide +kernel
theorem am_n84 (pc : Nat) (h : 10 ≤ pc) : am_code 84 pc = none := by
  show cond (Nat.ble 10 pc) none _ = none
  rw [Nat.ble_eq_true_of_le h]
  rfl
theorem am_q84 {pc : Nat} {e : EI} (h : am_code 84 pc = some e) : am_chk 84 pc e = true := by
  by_cases hs : 10 ≤ pc
  · rw [am_n84 pc hs] at h; cases h
  by_cases hl : pc < 10
  · exact am_chkR_use am_k84_0 (by omega) (by omega) h
  exact absurd hs (by omega)
set_option maxRecDepth 100000 in
theorem am_k85_0 : am_chkR 85 0 6 = true := by decide +kernel
theorem am_n85 (pc : Nat) (h : 6 ≤ pc) : am_code 85 pc = none := by
  show cond (Nat.ble 6 pc) none _ = none
  rw [Nat.ble_eq_true_of_le h]
  rfl
theorem am_q85 {pc : Nat} {e : EI} (h : am_code 85 pc = some e) : am_chk 85 pc e = true := by
  by_cases hs : 6 ≤ pc
  · rw [am_n85 pc hs] at h; cases h
  by_cases hl : pc < 6
  · exact am_chkR_use am_k85_0 (by omega) (by omega) h
  exact absurd hs (by omega)
set_option maxRecDepth 100000 in
theorem am_k86_0 : am_chkR 86 0 10 = true := by decide +kernel
theorem am_n86 (pc : Nat) (h : 10 ≤ pc) : am_code 86 pc = none := by
  show cond (Nat.ble 10 pc) none _ = none
  rw [Nat.ble_eq_true_of_le h]
  rfl
theorem am_q86 {pc : Nat} {e : EI} (h : am_code 86 pc = some e) : am_chk 86 pc e = true := by
  by_cases hs : 10 ≤ pc
  · rw [am_n86 pc hs] at h; cases h
  by_cases hl : pc < 10
  · exact am_chkR_use am_k86_0 (by omega) (by omega) h
  exact absurd hs (by omega)
set_option maxRecDepth 100000 in
theorem am_k87_0 : am_chkR 87 0 18 = true := by decide +kernel
theorem am_n87 (pc : Nat) (h : 18 ≤ pc) : am_code 87 pc = none := by
  show cond (Nat.ble 18 pc) none _ = none
  rw [Nat.ble_eq_true_of_le h]
  rfl
theorem am_q87 {pc : Nat} {e : EI} (h : am_code 87 pc = some e) : am_chk 87 pc e = true := by
  by_cases hs : 18 ≤ pc
  · rw [am_n87 pc hs] at h; cases h
  by_cases hl : pc < 18
  · exact am_chkR_use am_k87_0 (by omega) (by omega) h
  exact absurd hs (by omega)
set_option maxRecDepth 100000 in
theorem am_k88_0 : am_chkR 88 0 15 = true := by decide +kernel
theorem am_n88 (pc : Nat) (h : 15 ≤ pc) : am_code 88 pc = none := by
  show cond (Nat.ble 15 pc) none _ = none
  rw [Nat.ble_eq_true_of_le h]
  rfl
theorem am_q88 {pc : Nat} {e : EI} (h : am_code 88 pc = some e) : am_chk 88 pc e = true := by
  by_cases hs : 15 ≤ pc
  · rw [am_n88 pc hs] at h; cases h
  by_cases hl : pc < 15
  · exact am_chkR_use am_k88_0 (by omega) (by omega) h
  exact absurd hs (by omega)
set_option maxRecDepth 100000 in
theorem am_k89_0 : am_chkR 89 0 18 = true := by decide +kernel
theorem am_n89 (pc : Nat) (h : 18 ≤ pc) : am_code 89 pc = none := by
  show cond (Nat.ble 18 pc) none _ = none
  rw [Nat.ble_eq_true_of_le h]
  rfl
theorem am_q89 {pc : Nat} {e : EI} (h : am_code 89 pc = some e) : am_chk 89 pc e = true := by
  by_cases hs : 18 ≤ pc
  · rw [am_n89 pc hs] at h; cases h
  by_cases hl : pc < 18
  · exact am_chkR_use am_k89_0 (by omega) (by omega) h
  exact absurd hs (by omega)
set_option maxRecDepth 100000 in
theorem am_k90_0 : am_chkR 90 0 32 = true := by decide +kernel
theorem am_n90 (pc : Nat) (h : 32 ≤ pc) : am_code 90 pc = none := by
  show cond (Nat.ble 32 pc) none _ = none
  rw [Nat.ble_eq_true_of_le h]
  rfl
theorem am_q90 {pc : Nat} {e : EI} (h : am_code 90 pc = some e) : am_chk 90 pc e = true := by
  by_cases hs : 32 ≤ pc
  · rw [am_n90 pc hs] at h; cases h
  by_cases hl : pc < 32
  · exact am_chkR_use am_k90_0 (by omega) (by omega) h
  exact absurd hs (by omega)
set_option maxRecDepth 100000 in
theorem am_k91_0 : am_chkR 91 0 18 = true := by decide +kernel
theorem am_n91 (pc : Nat) (h : 18 ≤ pc) : am_code 91 pc = none := by
  show cond (Nat.ble 18 pc) none _ = none
  rw [Nat.ble_eq_true_of_le h]
  rfl
theorem am_q91 {pc : Nat} {e : EI} (h : am_code 91 pc = some e) : am_chk 91 pc e = true := by
  by_cases hs : 18 ≤ pc
  · rw [am_n91 pc hs] at h; cases h
  by_cases hl : pc < 18
  · exact am_chkR_use am_k91_0 (by omega) (by omega) h
  exact absurd hs (by omega)
set_option maxRecDepth 100000 in
theorem am_k92_0 : am_chkR 92 0 18 = true := by decide +kernel
theorem am_n92 (pc : Nat) (h : 18 ≤ pc) : am_code 92 pc = none := by
  show cond (Nat.ble 18 pc) none _ = none
  rw [Nat.ble_eq_true_of_le h]
  rfl
theorem am_q92 {pc : Nat} {e : EI} (h : am_code 92 pc = some e) : am_chk 92 pc e = true := by
  by_cases hs : 18 ≤ pc
  · rw [am_n92 pc hs] at h; cases h
  by_cases hl : pc < 18
  · exact am_chkR_use am_k92_0 (by omega) (by omega) h
  exact absurd hs (by omega)
set_option maxRecDepth 100000 in
theorem am_k93_0 : am_chkR 93 0 15 = true := by decide +kernel
theorem am_n93 (pc : Nat) (h : 15 ≤ pc) : am_code 93 pc = none := by
  show cond (Nat.ble 15 pc) none _ = none
  rw [Nat.ble_eq_true_of_le h]
  rfl
theorem am_q93 {pc : Nat} {e : EI} (h : am_code 93 pc = some e) : am_chk 93 pc e = true := by
  by_cases hs : 15 ≤ pc
  · rw [am_n93 pc hs] at h; cases h
  by_cases hl : pc < 15
  · exact am_chkR_use am_k93_0 (by omega) (by omega) h
  exact absurd hs (by omega)
set_option maxRecDepth 100000 in
theorem am_k94_0 : am_chkR 94 0 15 = true := by decide +kernel
theorem am_n94 (pc : Nat) (h : 15 ≤ pc) : am_code 94 pc = none := by
  show cond (Nat.ble 15 pc) none _ = none
  rw [Nat.ble_eq_true_of_le h]
  rfl
theorem am_q94 {pc : Nat} {e : EI} (h : am_code 94 pc = some e) : am_chk 94 pc e = true := by
  by_cases hs : 15 ≤ pc
  · rw [am_n94 pc hs] at h; cases h
  by_cases hl : pc < 15
  · exact am_chkR_use am_k94_0 (by omega) (by omega) h
  exact absurd hs (by omega)
set_option maxRecDepth 100000 in
theorem am_k95_0 : am_chkR 95 0 9 = true := by decide +kernel
theorem am_n95 (pc : Nat) (h : 9 ≤ pc) : am_code 95 pc = none := by
  show cond (Nat.ble 9 pc) none _ = none
  rw [Nat.ble_eq_true_of_le h]
  rfl
theorem am_q95 {pc : Nat} {e : EI} (h : am_code 95 pc = some e) : am_chk 95 pc e = true := by
  by_cases hs : 9 ≤ pc
  · rw [am_n95 pc hs] at h; cases h
  by_cases hl : pc < 9
  · exact am_chkR_use am_k95_0 (by omega) (by omega) h
  exact absurd hs (by omega)
set_option maxRecDepth 100000 in
theorem am_k96_0 : am_chkR 96 0 29 = true := by decide +kernel
theorem am_n96 (pc : Nat) (h : 29 ≤ pc) : am_code 96 pc = none := by
  show cond (Nat.ble 29 pc) none _ = none
  rw [Nat.ble_eq_true_of_le h]
  rfl
theorem am_q96 {pc : Nat} {e : EI} (h : am_code 96 pc = some e) : am_chk 96 pc e = true := by
  by_cases hs : 29 ≤ pc
  · rw [am_n96 pc hs] at h; cases h
  by_cases hl : pc < 29
  · exact am_chkR_use am_k96_0 (by omega) (by omega) h
  exact absurd hs (by omega)
set_option maxRecDepth 100000 in
theorem am_k97_0 : am_chkR 97 0 16 = true := by decide +kernel
theorem am_n97 (pc : Nat) (h : 16 ≤ pc) : am_code 97 pc = none := by
  show cond (Nat.ble 16 pc) none _ = none
  rw [Nat.ble_eq_true_of_le h]
  rfl
theorem am_q97 {pc : Nat} {e : EI} (h : am_code 97 pc = some e) : am_chk 97 pc e = true := by
  by_cases hs : 16 ≤ pc
  · rw [am_n97 pc hs] at h; cases h
  by_cases hl : pc < 16
  · exact am_chkR_use am_k97_0 (by omega) (by omega) h
  exact absurd hs (by omega)
set_option maxRecDepth 100000 in
theorem am_k98_0 : am_chkR 98 0 36 = true := by decide +kernel
theorem am_n98 (pc : Nat) (h : 36 ≤ pc) : am_code 98 pc = none := by
  show cond (Nat.ble 36 pc) none _ = none
  rw [Nat.ble_eq_true_of_le h]
  rfl
theorem am_q98 {pc : Nat} {e : EI} (h : am_code 98 pc = some e) : am_chk 98 pc e = true := by
  by_cases hs : 36 ≤ pc
  · rw [am_n98 pc hs] at h; cases h
  by_cases hl : pc < 36
  · exact am_chkR_use am_k98_0 (by omega) (by omega) h
  exact absurd hs (by omega)
set_option maxRecDepth 100000 in
theorem am_k99_0 : am_chkR 99 0 48 = true := by decide +kernel
theorem am_n99 (pc : Nat) (h : 48 ≤ pc) : am_code 99 pc = none := by
  show cond (Nat.ble 48 pc) none _ = none
  rw [Nat.ble_eq_true_of_le h]
  rfl
theorem am_q99 {pc : Nat} {e : EI} (h : am_code 99 pc = some e) : am_chk 99 pc e = true := by
  by_cases hs : 48 ≤ pc
  · rw [am_n99 pc hs] at h; cases h
  by_cases hl : pc < 48
  · exact am_chkR_use am_k99_0 (by omega) (by omega) h
  exact absurd hs (by omega)
set_option maxRecDepth 100000 in
theorem am_k100_0 : am_chkR 100 0 40 = true := by decide +kernel
theorem am_n100 (pc : Nat) (h : 40 ≤ pc) : am_code 100 pc = none := by
  show cond (Nat.ble 40 pc) none _ = none
  rw [Nat.ble_eq_true_of_le h]
  rfl
theorem am_q100 {pc : Nat} {e : EI} (h : am_code 100 pc = some e) : am_chk 100 pc e = true := by
  by_cases hs : 40 ≤ pc
  · rw [am_n100 pc hs] at h; cases h
  by_cases hl : pc < 40
  · exact am_chkR_use am_k100_0 (by omega) (by omega) h
  exact absurd hs (by omega)
set_option maxRecDepth 100000 in
theorem am_k101_0 : am_chkR 101 0 61 = true := by decide +kernel
theorem am_n101 (pc : Nat) (h : 61 ≤ pc) : am_code 101 pc = none := by
  show cond (Nat.ble 61 pc) none _ = none
  rw [Nat.ble_eq_true_of_le h]
  rfl
theorem am_q101 {pc : Nat} {e : EI} (h : am_code 101 pc = some e) : am_chk 101 pc e = true := by
  by_cases hs : 61 ≤ pc
  · rw [am_n101 pc hs] at h; cases h
  by_cases hl : pc < 61
  · exact am_chkR_use am_k101_0 (by omega) (by omega) h
  exact absurd hs (by omega)
set_option maxRecDepth 100000 in
theorem am_k102_0 : am_chkR 102 0 78 = true := by decide +kernel
theorem am_n102 (pc : Nat) (h : 78 ≤ pc) : am_code 102 pc = none := by
  show cond (Nat.ble 78 pc) none _ = none
  rw [Nat.ble_eq_true_of_le h]
  rfl
theorem am_q102 {pc : Nat} {e : EI} (h : am_code 102 pc = some e) : am_chk 102 pc e = true := by
  by_cases hs : 78 ≤ pc
  · rw [am_n102 pc hs] at h; cases h
  by_cases hl : pc < 78
  · exact am_chkR_use am_k102_0 (by omega) (by omega) h
  exact absurd hs (by omega)
set_option maxRecDepth 100000 in
theorem am_k103_0 : am_chkR 103 0 52 = true := by decide +kernel
theorem am_n103 (pc : Nat) (h : 52 ≤ pc) : am_code 103 pc = none := by
  show cond (Nat.ble 52 pc) none _ = none
  rw [Nat.ble_eq_true_of_le h]
  rfl
theorem am_q103 {pc : Nat} {e : EI} (h : am_code 103 pc = some e) : am_chk 103 pc e = true := by
  by_cases hs : 52 ≤ pc
  · rw [am_n103 pc hs] at h; cases h
  by_cases hl : pc < 52
  · exact am_chkR_use am_k103_0 (by omega) (by omega) h
  exact absurd hs (by omega)
set_option maxRecDepth 100000 in
theorem am_k104_0 : am_chkR 104 0 53 = true := by decide +kernel
theorem am_n104 (pc : Nat) (h : 53 ≤ pc) : am_code 104 pc = none := by
  show cond (Nat.ble 53 pc) none _ = none
  rw [Nat.ble_eq_true_of_le h]
  rfl
theorem am_q104 {pc : Nat} {e : EI} (h : am_code 104 pc = some e) : am_chk 104 pc e = true := by
  by_cases hs : 53 ≤ pc
  · rw [am_n104 pc hs] at h; cases h
  by_cases hl : pc < 53
  · exact am_chkR_use am_k104_0 (by omega) (by omega) h
  exact absurd hs (by omega)
set_option maxRecDepth 100000 in
theorem am_k105_0 : am_chkR 105 0 88 = true := by decide +kernel
theorem am_n105 (pc : Nat) (h : 88 ≤ pc) : am_code 105 pc = none := by
  show cond (Nat.ble 88 pc) none _ = none
  rw [Nat.ble_eq_true_of_le h]
  rfl
theorem am_q105 {pc : Nat} {e : EI} (h : am_code 105 pc = some e) : am_chk 105 pc e = true := by
  by_cases hs : 88 ≤ pc
  · rw [am_n105 pc hs] at h; cases h
  by_cases hl : pc < 88
  · exact am_chkR_use am_k105_0 (by omega) (by omega) h
  exact absurd hs (by omega)
set_option maxRecDepth 100000 in
theorem am_k106_0 : am_chkR 106 0 79 = true := by decide +kernel
theorem am_n106 (pc : Nat) (h : 79 ≤ pc) : am_code 106 pc = none := by
  show cond (Nat.ble 79 pc) none _ = none
  rw [Nat.ble_eq_true_of_le h]
  rfl
theorem am_q106 {pc : Nat} {e : EI} (h : am_code 106 pc = some e) : am_chk 106 pc e = true := by
  by_cases hs : 79 ≤ pc
  · rw [am_n106 pc hs] at h; cases h
  by_cases hl : pc < 79
  · exact am_chkR_use am_k106_0 (by omega) (by omega) h
  exact absurd hs (by omega)
set_option maxRecDepth 100000 in
theorem am_k107_0 : am_chkR 107 0 160 = true := by decide +kernel
set_option maxRecDepth 100000 in
theorem am_k107_160 : am_chkR 107 160 52 = true := by decide +kernel
theorem am_n107 (pc : Nat) (h : 212 ≤ pc) : am_code 107 pc = none := by
  show cond (Nat.ble 212 pc) none _ = none
  rw [Nat.ble_eq_true_of_le h]
  rfl
theorem am_q107 {pc : Nat} {e : EI} (h : am_code 107 pc = some e) : am_chk 107 pc e = true := by
  by_cases hs : 212 ≤ pc
  · rw [am_n107 pc hs] at h; cases h
  by_cases hl : pc < 160
  · exact am_chkR_use am_k107_0 (by omega) (by omega) h
  by_cases hl : pc < 212
  · exact am_chkR_use am_k107_160 (by omega) (by omega) h
  exact absurd hs (by omega)
set_option maxRecDepth 100000 in
theorem am_k108_0 : am_chkR 108 0 19 = true := by decide +kernel
theorem am_n108 (pc : Nat) (h : 19 ≤ pc) : am_code 108 pc = none := by
  show cond (Nat.ble 19 pc) none _ = none
  rw [Nat.ble_eq_true_of_le h]
  rfl
theorem am_q108 {pc : Nat} {e : EI} (h : am_code 108 pc = some e) : am_chk 108 pc e = true := by
  by_cases hs : 19 ≤ pc
  · rw [am_n108 pc hs] at h; cases h
  by_cases hl : pc < 19
  · exact am_chkR_use am_k108_0 (by omega) (by omega) h
  exact absurd hs (by omega)
set_option maxRecDepth 100000 in
theorem am_k109_0 : am_chkR 109 0 8 = true := by decide +kernel
theorem am_n109 (pc : Nat) (h : 8 ≤ pc) : am_code 109 pc = none := by
  show cond (Nat.ble 8 pc) none _ = none
  rw [Nat.ble_eq_true_of_le h]
  rfl
theorem am_q109 {pc : Nat} {e : EI} (h : am_code 109 pc = some e) : am_chk 109 pc e = true := by
  by_cases hs : 8 ≤ pc
  · rw [am_n109 pc hs] at h; cases h
  by_cases hl : pc < 8
  · exact am_chkR_use am_k109_0 (by omega) (by omega) h
  exact absurd hs (by omega)
set_option maxRecDepth 100000 in
theorem am_k110_0 : am_chkR 110 0 15 = true := by decide +kernel
theorem am_n110 (pc : Nat) (h : 15 ≤ pc) : am_code 110 pc = none := by
  show cond (Nat.ble 15 pc) none _ = none
  rw [Nat.ble_eq_true_of_le h]
  rfl
theorem am_q110 {pc : Nat} {e : EI} (h : am_code 110 pc = some e) : am_chk 110 pc e = true := by
  by_cases hs : 15 ≤ pc
  · rw [am_n110 pc hs] at h; cases h
  by_cases hl : pc < 15
  · exact am_chkR_use am_k110_0 (by omega) (by omega) h
  exact absurd hs (by omega)
set_option maxRecDepth 100000 in
theorem am_k111_0 : am_chkR 111 0 11 = true := by decide +kernel
theorem am_n111 (pc : Nat) (h : 11 ≤ pc) : am_code 111 pc = none := by
  show cond (Nat.ble 11 pc) none _ = none
  rw [Nat.ble_eq_true_of_le h]
  rfl
theorem am_q111 {pc : Nat} {e : EI} (h : am_code 111 pc = some e) : am_chk 111 pc e = true := by
  by_cases hs : 11 ≤ pc
  · rw [am_n111 pc hs] at h; cases h
  by_cases hl : pc < 11
  · exact am_chkR_use am_k111_0 (by omega) (by omega) h
  exact absurd hs (by omega)
set_option maxRecDepth 100000 in
theorem am_k112_0 : am_chkR 112 0 10 = true := by decide +kernel
theorem am_n112 (pc : Nat) (h : 10 ≤ pc) : am_code 112 pc = none := by
  show cond (Nat.ble 10 pc) none _ = none
  rw [Nat.ble_eq_true_of_le h]
  rfl
theorem am_q112 {pc : Nat} {e : EI} (h : am_code 112 pc = some e) : am_chk 112 pc e = true := by
  by_cases hs : 10 ≤ pc
  · rw [am_n112 pc hs] at h; cases h
  by_cases hl : pc < 10
  · exact am_chkR_use am_k112_0 (by omega) (by omega) h
  exact absurd hs (by omega)
set_option maxRecDepth 100000 in
theorem am_k113_0 : am_chkR 113 0 10 = true := by decide +kernel
theorem am_n113 (pc : Nat) (h : 10 ≤ pc) : am_code 113 pc = none := by
  show cond (Nat.ble 10 pc) none _ = none
  rw [Nat.ble_eq_true_of_le h]
  rfl
theorem am_q113 {pc : Nat} {e : EI} (h : am_code 113 pc = some e) : am_chk 113 pc e = true := by
  by_cases hs : 10 ≤ pc
  · rw [am_n113 pc hs] at h; cases h
  by_cases hl : pc < 10
  · exact am_chkR_use am_k113_0 (by omega) (by omega) h
  exact absurd hs (by omega)
set_option maxRecDepth 100000 in
theorem am_k114_0 : am_chkR 114 0 82 = true := by decide +kernel
theorem am_n114 (pc : Nat) (h : 82 ≤ pc) : am_code 114 pc = none := by
  show cond (Nat.ble 82 pc) none _ = none
  rw [Nat.ble_eq_true_of_le h]
  rfl
theorem am_q114 {pc : Nat} {e : EI} (h : am_code 114 pc = some e) : am_chk 114 pc e = true := by
  by_cases hs : 82 ≤ pc
  · rw [am_n114 pc hs] at h; cases h
  by_cases hl : pc < 82
  · exact am_chkR_use am_k114_0 (by omega) (by omega) h
  exact absurd hs (by omega)
set_option maxRecDepth 100000 in
theorem am_k115_0 : am_chkR 115 0 39 = true := by decide +kernel
theorem am_n115 (pc : Nat) (h : 39 ≤ pc) : am_code 115 pc = none := by
  show cond (Nat.ble 39 pc) none _ = none
  rw [Nat.ble_eq_true_of_le h]
  rfl
theorem am_q115 {pc : Nat} {e : EI} (h : am_code 115 pc = some e) : am_chk 115 pc e = true := by
  by_cases hs : 39 ≤ pc
  · rw [am_n115 pc hs] at h; cases h
  by_cases hl : pc < 39
  · exact am_chkR_use am_k115_0 (by omega) (by omega) h
  exact absurd hs (by omega)
set_option maxRecDepth 100000 in
theorem am_k116_0 : am_chkR 116 0 59 = true := by decide +kernel
theorem am_n116 (pc : Nat) (h : 59 ≤ pc) : am_code 116 pc = none := by
  show cond (Nat.ble 59 pc) none _ = none
  rw [Nat.ble_eq_true_of_le h]
  rfl
theorem am_q116 {pc : Nat} {e : EI} (h : am_code 116 pc = some e) : am_chk 116 pc e = true := by
  by_cases hs : 59 ≤ pc
  · rw [am_n116 pc hs] at h; cases h
  by_cases hl : pc < 59
  · exact am_chkR_use am_k116_0 (by omega) (by omega) h
  exact absurd hs (by omega)
set_option maxRecDepth 100000 in
theorem am_k117_0 : am_chkR 117 0 21 = true := by decide +kernel
theorem am_n117 (pc : Nat) (h : 21 ≤ pc) : am_code 117 pc = none := by
  show cond (Nat.ble 21 pc) none _ = none
  rw [Nat.ble_eq_true_of_le h]
  rfl
theorem am_q117 {pc : Nat} {e : EI} (h : am_code 117 pc = some e) : am_chk 117 pc e = true := by
  by_cases hs : 21 ≤ pc
  · rw [am_n117 pc hs] at h; cases h
  by_cases hl : pc < 21
  · exact am_chkR_use am_k117_0 (by omega) (by omega) h
  exact absurd hs (by omega)
set_option maxRecDepth 100000 in
theorem am_k118_0 : am_chkR 118 0 58 = true := by decide +kernel
theorem am_n118 (pc : Nat) (h : 58 ≤ pc) : am_code 118 pc = none := by
  show cond (Nat.ble 58 pc) none _ = none
  rw [Nat.ble_eq_true_of_le h]
  rfl
theorem am_q118 {pc : Nat} {e : EI} (h : am_code 118 pc = some e) : am_chk 118 pc e = true := by
  by_cases hs : 58 ≤ pc
  · rw [am_n118 pc hs] at h; cases h
  by_cases hl : pc < 58
  · exact am_chkR_use am_k118_0 (by omega) (by omega) h
  exact absurd hs (by omega)
set_option maxRecDepth 100000 in
theorem am_k119_0 : am_chkR 119 0 44 = true := by decide +kernel
theorem am_n119 (pc : Nat) (h : 44 ≤ pc) : am_code 119 pc = none := by
  show cond (Nat.ble 44 pc) none _ = none
  rw [Nat.ble_eq_true_of_le h]
  rfl
theorem am_q119 {pc : Nat} {e : EI} (h : am_code 119 pc = some e) : am_chk 119 pc e = true := by
  by_cases hs : 44 ≤ pc
  · rw [am_n119 pc hs] at h; cases h
  by_cases hl : pc < 44
  · exact am_chkR_use am_k119_0 (by omega) (by omega) h
  exact absurd hs (by omega)
set_option maxRecDepth 100000 in
theorem am_k120_0 : am_chkR 120 0 160 = true := by decide +kernel
set_option maxRecDepth 100000 in
theorem am_k120_160 : am_chkR 120 160 34 = true := by decide +kernel
theorem am_n120 (pc : Nat) (h : 194 ≤ pc) : am_code 120 pc = none := by
  show cond (Nat.ble 194 pc) none _ = none
  rw [Nat.ble_eq_true_of_le h]
  rfl
theorem am_q120 {pc : Nat} {e : EI} (h : am_code 120 pc = some e) : am_chk 120 pc e = true := by
  by_cases hs : 194 ≤ pc
  · rw [am_n120 pc hs] at h; cases h
  by_cases hl : pc < 160
  · exact am_chkR_use am_k120_0 (by omega) (by omega) h
  by_cases hl : pc < 194
  · exact am_chkR_use am_k120_160 (by omega) (by omega) h
  exact absurd hs (by omega)
set_option maxRecDepth 100000 in
theorem am_k121_0 : am_chkR 121 0 44 = true := by decide +kernel
theorem am_n121 (pc : Nat) (h : 44 ≤ pc) : am_code 121 pc = none := by
  show cond (Nat.ble 44 pc) none _ = none
  rw [Nat.ble_eq_true_of_le h]
  rfl
theorem am_q121 {pc : Nat} {e : EI} (h : am_code 121 pc = some e) : am_chk 121 pc e = true := by
  by_cases hs : 44 ≤ pc
  · rw [am_n121 pc hs] at h; cases h
  by_cases hl : pc < 44
  · exact am_chkR_use am_k121_0 (by omega) (by omega) h
  exact absurd hs (by omega)
set_option maxRecDepth 100000 in
theorem am_k122_0 : am_chkR 122 0 52 = true := by decide +kernel
theorem am_n122 (pc : Nat) (h : 52 ≤ pc) : am_code 122 pc = none := by
  show cond (Nat.ble 52 pc) none _ = none
  rw [Nat.ble_eq_true_of_le h]
  rfl
theorem am_q122 {pc : Nat} {e : EI} (h : am_code 122 pc = some e) : am_chk 122 pc e = true := by
  by_cases hs : 52 ≤ pc
  · rw [am_n122 pc hs] at h; cases h
  by_cases hl : pc < 52
  · exact am_chkR_use am_k122_0 (by omega) (by omega) h
  exact absurd hs (by omega)
set_option maxRecDepth 100000 in
theorem am_k123_0 : am_chkR 123 0 12 = true := by decide +kernel
theorem am_n123 (pc : Nat) (h : 12 ≤ pc) : am_code 123 pc = none := by
  show cond (Nat.ble 12 pc) none _ = none
  rw [Nat.ble_eq_true_of_le h]
  rfl
theorem am_q123 {pc : Nat} {e : EI} (h : am_code 123 pc = some e) : am_chk 123 pc e = true := by
  by_cases hs : 12 ≤ pc
  · rw [am_n123 pc hs] at h; cases h
  by_cases hl : pc < 12
  · exact am_chkR_use am_k123_0 (by omega) (by omega) h
  exact absurd hs (by omega)
set_option maxRecDepth 100000 in
theorem am_k124_0 : am_chkR 124 0 17 = true := by decide +kernel
theorem am_n124 (pc : Nat) (h : 17 ≤ pc) : am_code 124 pc = none := by
  show cond (Nat.ble 17 pc) none _ = none
  rw [Nat.ble_eq_true_of_le h]
  rfl
theorem am_q124 {pc : Nat} {e : EI} (h : am_code 124 pc = some e) : am_chk 124 pc e = true := by
  by_cases hs : 17 ≤ pc
  · rw [am_n124 pc hs] at h; cases h
  by_cases hl : pc < 17
  · exact am_chkR_use am_k124_0 (by omega) (by omega) h
  exact absurd hs (by omega)
set_option maxRecDepth 100000 in
theorem am_k125_0 : am_chkR 125 0 160 = true := by decide +kernel
set_option maxRecDepth 100000 in
theorem am_k125_160 : am_chkR 125 160 15 = true := by decide +kernel
theorem am_n125 (pc : Nat) (h : 175 ≤ pc) : am_code 125 pc = none := by
  show cond (Nat.ble 175 pc) none _ = none
  rw [Nat.ble_eq_true_of_le h]
  rfl
theorem am_q125 {pc : Nat} {e : EI} (h : am_code 125 pc = some e) : am_chk 125 pc e = true := by
  by_cases hs : 175 ≤ pc
  · rw [am_n125 pc hs] at h; cases h
  by_cases hl : pc < 160
  · exact am_chkR_use am_k125_0 (by omega) (by omega) h
  by_cases hl : pc < 175
  · exact am_chkR_use am_k125_160 (by omega) (by omega) h
  exact absurd hs (by omega)
set_option maxRecDepth 100000 in
theorem am_k126_0 : am_chkR 126 0 33 = true := by decide +kernel
theorem am_n126 (pc : Nat) (h : 33 ≤ pc) : am_code 126 pc = none := by
  show cond (Nat.ble 33 pc) none _ = none
  rw [Nat.ble_eq_true_of_le h]
  rfl
theorem am_q126 {pc : Nat} {e : EI} (h : am_code 126 pc = some e) : am_chk 126 pc e = true := by
  by_cases hs : 33 ≤ pc
  · rw [am_n126 pc hs] at h; cases h
  by_cases hl : pc < 33
  · exact am_chkR_use am_k126_0 (by omega) (by omega) h
  exact absurd hs (by omega)
set_option maxRecDepth 100000 in
theorem am_k127_0 : am_chkR 127 0 26 = true := by decide +kernel
theorem am_n127 (pc : Nat) (h : 26 ≤ pc) : am_code 127 pc = none := by
  show cond (Nat.ble 26 pc) none _ = none
  rw [Nat.ble_eq_true_of_le h]
  rfl
theorem am_q127 {pc : Nat} {e : EI} (h : am_code 127 pc = some e) : am_chk 127 pc e = true := by
  by_cases hs : 26 ≤ pc
  · rw [am_n127 pc hs] at h; cases h
  by_cases hl : pc < 26
  · exact am_chkR_use am_k127_0 (by omega) (by omega) h
  exact absurd hs (by omega)
set_option maxRecDepth 100000 in
theorem am_k128_0 : am_chkR 128 0 160 = true := by decide +kernel
set_option maxRecDepth 100000 in
theorem am_k128_160 : am_chkR 128 160 62 = true := by decide +kernel
theorem am_n128 (pc : Nat) (h : 222 ≤ pc) : am_code 128 pc = none := by
  show cond (Nat.ble 222 pc) none _ = none
  rw [Nat.ble_eq_true_of_le h]
  rfl
theorem am_q128 {pc : Nat} {e : EI} (h : am_code 128 pc = some e) : am_chk 128 pc e = true := by
  by_cases hs : 222 ≤ pc
  · rw [am_n128 pc hs] at h; cases h
  by_cases hl : pc < 160
  · exact am_chkR_use am_k128_0 (by omega) (by omega) h
  by_cases hl : pc < 222
  · exact am_chkR_use am_k128_160 (by omega) (by omega) h
  exact absurd hs (by omega)
set_option maxRecDepth 100000 in
theorem am_k129_0 : am_chkR 129 0 14 = true := by decide +kernel
theorem am_n129 (pc : Nat) (h : 14 ≤ pc) : am_code 129 pc = none := by
  show cond (Nat.ble 14 pc) none _ = none
  rw [Nat.ble_eq_true_of_le h]
  rfl
theorem am_q129 {pc : Nat} {e : EI} (h : am_code 129 pc = some e) : am_chk 129 pc e = true := by
  by_cases hs : 14 ≤ pc
  · rw [am_n129 pc hs] at h; cases h
  by_cases hl : pc < 14
  · exact am_chkR_use am_k129_0 (by omega) (by omega) h
  exact absurd hs (by omega)
set_option maxRecDepth 100000 in
theorem am_k130_0 : am_chkR 130 0 160 = true := by decide +kernel
set_option maxRecDepth 100000 in
theorem am_k130_160 : am_chkR 130 160 21 = true := by decide +kernel
theorem am_n130 (pc : Nat) (h : 181 ≤ pc) : am_code 130 pc = none := by
  show cond (Nat.ble 181 pc) none _ = none
  rw [Nat.ble_eq_true_of_le h]
  rfl
theorem am_q130 {pc : Nat} {e : EI} (h : am_code 130 pc = some e) : am_chk 130 pc e = true := by
  by_cases hs : 181 ≤ pc
  · rw [am_n130 pc hs] at h; cases h
  by_cases hl : pc < 160
  · exact am_chkR_use am_k130_0 (by omega) (by omega) h
  by_cases hl : pc < 181
  · exact am_chkR_use am_k130_160 (by omega) (by omega) h
  exact absurd hs (by omega)
set_option maxRecDepth 100000 in
theorem am_k131_0 : am_chkR 131 0 50 = true := by decide +kernel
theorem am_n131 (pc : Nat) (h : 50 ≤ pc) : am_code 131 pc = none := by
  show cond (Nat.ble 50 pc) none _ = none
  rw [Nat.ble_eq_true_of_le h]
  rfl
theorem am_q131 {pc : Nat} {e : EI} (h : am_code 131 pc = some e) : am_chk 131 pc e = true := by
  by_cases hs : 50 ≤ pc
  · rw [am_n131 pc hs] at h; cases h
  by_cases hl : pc < 50
  · exact am_chkR_use am_k131_0 (by omega) (by omega) h
  exact absurd hs (by omega)
set_option maxRecDepth 100000 in
theorem am_k132_0 : am_chkR 132 0 42 = true := by decide +kernel
theorem am_n132 (pc : Nat) (h : 42 ≤ pc) : am_code 132 pc = none := by
  show cond (Nat.ble 42 pc) none _ = none
  rw [Nat.ble_eq_true_of_le h]
  rfl
theorem am_q132 {pc : Nat} {e : EI} (h : am_code 132 pc = some e) : am_chk 132 pc e = true := by
  by_cases hs : 42 ≤ pc
  · rw [am_n132 pc hs] at h; cases h
  by_cases hl : pc < 42
  · exact am_chkR_use am_k132_0 (by omega) (by omega) h
  exact absurd hs (by omega)
set_option maxRecDepth 100000 in
theorem am_k133_0 : am_chkR 133 0 64 = true := by decide +kernel
theorem am_n133 (pc : Nat) (h : 64 ≤ pc) : am_code 133 pc = none := by
  show cond (Nat.ble 64 pc) none _ = none
  rw [Nat.ble_eq_true_of_le h]
  rfl
theorem am_q133 {pc : Nat} {e : EI} (h : am_code 133 pc = some e) : am_chk 133 pc e = true := by
  by_cases hs : 64 ≤ pc
  · rw [am_n133 pc hs] at h; cases h
  by_cases hl : pc < 64
  · exact am_chkR_use am_k133_0 (by omega) (by omega) h
  exact absurd hs (by omega)
set_option maxRecDepth 100000 in
theorem am_k134_0 : am_chkR 134 0 37 = true := by decide +kernel
theorem am_n134 (pc : Nat) (h : 37 ≤ pc) : am_code 134 pc = none := by
  show cond (Nat.ble 37 pc) none _ = none
  rw [Nat.ble_eq_true_of_le h]
  rfl
theorem am_q134 {pc : Nat} {e : EI} (h : am_code 134 pc = some e) : am_chk 134 pc e = true := by
  by_cases hs : 37 ≤ pc
  · rw [am_n134 pc hs] at h; cases h
  by_cases hl : pc < 37
  · exact am_chkR_use am_k134_0 (by omega) (by omega) h
  exact absurd hs (by omega)
set_option maxRecDepth 100000 in
theorem am_k135_0 : am_chkR 135 0 60 = true := by decide +kernel
theorem am_n135 (pc : Nat) (h : 60 ≤ pc) : am_code 135 pc = none := by
  show cond (Nat.ble 60 pc) none _ = none
  rw [Nat.ble_eq_true_of_le h]
  rfl
theorem am_q135 {pc : Nat} {e : EI} (h : am_code 135 pc = some e) : am_chk 135 pc e = true := by
  by_cases hs : 60 ≤ pc
  · rw [am_n135 pc hs] at h; cases h
  by_cases hl : pc < 60
  · exact am_chkR_use am_k135_0 (by omega) (by omega) h
  exact absurd hs (by omega)
set_option maxRecDepth 100000 in
theorem am_k136_0 : am_chkR 136 0 152 = true := by decide +kernel
theorem am_n136 (pc : Nat) (h : 152 ≤ pc) : am_code 136 pc = none := by
  show cond (Nat.ble 152 pc) none _ = none
  rw [Nat.ble_eq_true_of_le h]
  rfl
theorem am_q136 {pc : Nat} {e : EI} (h : am_code 136 pc = some e) : am_chk 136 pc e = true := by
  by_cases hs : 152 ≤ pc
  · rw [am_n136 pc hs] at h; cases h
  by_cases hl : pc < 152
  · exact am_chkR_use am_k136_0 (by omega) (by omega) h
  exact absurd hs (by omega)
set_option maxRecDepth 100000 in
theorem am_k137_0 : am_chkR 137 0 160 = true := by decide +kernel
set_option maxRecDepth 100000 in
theorem am_k137_160 : am_chkR 137 160 84 = true := by decide +kernel
theorem am_n137 (pc : Nat) (h : 244 ≤ pc) : am_code 137 pc = none := by
  show cond (Nat.ble 244 pc) none _ = none
  rw [Nat.ble_eq_true_of_le h]
  rfl
theorem am_q137 {pc : Nat} {e : EI} (h : am_code 137 pc = some e) : am_chk 137 pc e = true := by
  by_cases hs : 244 ≤ pc
  · rw [am_n137 pc hs] at h; cases h
  by_cases hl : pc < 160
  · exact am_chkR_use am_k137_0 (by omega) (by omega) h
  by_cases hl : pc < 244
  · exact am_chkR_use am_k137_160 (by omega) (by omega) h
  exact absurd hs (by omega)
set_option maxRecDepth 100000 in
theorem am_k138_0 : am_chkR 138 0 68 = true := by decide +kernel
theorem am_n138 (pc : Nat) (h : 68 ≤ pc) : am_code 138 pc = none := by
  show cond (Nat.ble 68 pc) none _ = none
  rw [Nat.ble_eq_true_of_le h]
  rfl
theorem am_q138 {pc : Nat} {e : EI} (h : am_code 138 pc = some e) : am_chk 138 pc e = true := by
  by_cases hs : 68 ≤ pc
  · rw [am_n138 pc hs] at h; cases h
  by_cases hl : pc < 68
  · exact am_chkR_use am_k138_0 (by omega) (by omega) h
  exact absurd hs (by omega)
set_option maxRecDepth 100000 in
theorem am_k139_0 : am_chkR 139 0 160 = true := by decide +kernel
set_option maxRecDepth 100000 in
theorem am_k139_160 : am_chkR 139 160 108 = true := by decide +kernel
theorem am_n139 (pc : Nat) (h : 268 ≤ pc) : am_code 139 pc = none := by
  show cond (Nat.ble 268 pc) none _ = none
  rw [Nat.ble_eq_true_of_le h]
  rfl
theorem am_q139 {pc : Nat} {e : EI} (h : am_code 139 pc = some e) : am_chk 139 pc e = true := by
  by_cases hs : 268 ≤ pc
  · rw [am_n139 pc hs] at h; cases h
  by_cases hl : pc < 160
  · exact am_chkR_use am_k139_0 (by omega) (by omega) h
  by_cases hl : pc < 268
  · exact am_chkR_use am_k139_160 (by omega) (by omega) h
  exact absurd hs (by omega)
set_option maxRecDepth 100000 in
theorem am_k140_0 : am_chkR 140 0 104 = true := by decide +kernel
theorem am_n140 (pc : Nat) (h : 104 ≤ pc) : am_code 140 pc = none := by
  show cond (Nat.ble 104 pc) none _ = none
  rw [Nat.ble_eq_true_of_le h]
  rfl
theorem am_q140 {pc : Nat} {e : EI} (h : am_code 140 pc = some e) : am_chk 140 pc e = true := by
  by_cases hs : 104 ≤ pc
  · rw [am_n140 pc hs] at h; cases h
  by_cases hl : pc < 104
  · exact am_chkR_use am_k140_0 (by omega) (by omega) h
  exact absurd hs (by omega)
set_option maxRecDepth 100000 in
theorem am_k141_0 : am_chkR 141 0 78 = true := by decide +kernel
theorem am_n141 (pc : Nat) (h : 78 ≤ pc) : am_code 141 pc = none := by
  show cond (Nat.ble 78 pc) none _ = none
  rw [Nat.ble_eq_true_of_le h]
  rfl
theorem am_q141 {pc : Nat} {e : EI} (h : am_code 141 pc = some e) : am_chk 141 pc e = true := by
  by_cases hs : 78 ≤ pc
  · rw [am_n141 pc hs] at h; cases h
  by_cases hl : pc < 78
  · exact am_chkR_use am_k141_0 (by omega) (by omega) h
  exact absurd hs (by omega)
set_option maxRecDepth 100000 in
theorem am_k142_0 : am_chkR 142 0 9 = true := by decide +kernel
theorem am_n142 (pc : Nat) (h : 9 ≤ pc) : am_code 142 pc = none := by
  show cond (Nat.ble 9 pc) none _ = none
  rw [Nat.ble_eq_true_of_le h]
  rfl
theorem am_q142 {pc : Nat} {e : EI} (h : am_code 142 pc = some e) : am_chk 142 pc e = true := by
  by_cases hs : 9 ≤ pc
  · rw [am_n142 pc hs] at h; cases h
  by_cases hl : pc < 9
  · exact am_chkR_use am_k142_0 (by omega) (by omega) h
  exact absurd hs (by omega)
set_option maxRecDepth 100000 in
theorem am_k143_0 : am_chkR 143 0 31 = true := by decide +kernel
theorem am_n143 (pc : Nat) (h : 31 ≤ pc) : am_code 143 pc = none := by
  show cond (Nat.ble 31 pc) none _ = none
  rw [Nat.ble_eq_true_of_le h]
  rfl
theorem am_q143 {pc : Nat} {e : EI} (h : am_code 143 pc = some e) : am_chk 143 pc e = true := by
  by_cases hs : 31 ≤ pc
  · rw [am_n143 pc hs] at h; cases h
  by_cases hl : pc < 31
  · exact am_chkR_use am_k143_0 (by omega) (by omega) h
  exact absurd hs (by omega)
set_option maxRecDepth 100000 in
theorem am_k144_0 : am_chkR 144 0 33 = true := by decide +kernel
theorem am_n144 (pc : Nat) (h : 33 ≤ pc) : am_code 144 pc = none := by
  show cond (Nat.ble 33 pc) none _ = none
  rw [Nat.ble_eq_true_of_le h]
  rfl
theorem am_q144 {pc : Nat} {e : EI} (h : am_code 144 pc = some e) : am_chk 144 pc e = true := by
  by_cases hs : 33 ≤ pc
  · rw [am_n144 pc hs] at h; cases h
  by_cases hl : pc < 33
  · exact am_chkR_use am_k144_0 (by omega) (by omega) h
  exact absurd hs (by omega)
set_option maxRecDepth 100000 in
theorem am_k145_0 : am_chkR 145 0 105 = true := by decide +kernel
theorem am_n145 (pc : Nat) (h : 105 ≤ pc) : am_code 145 pc = none := by
  show cond (Nat.ble 105 pc) none _ = none
  rw [Nat.ble_eq_true_of_le h]
  rfl
theorem am_q145 {pc : Nat} {e : EI} (h : am_code 145 pc = some e) : am_chk 145 pc e = true := by
  by_cases hs : 105 ≤ pc
  · rw [am_n145 pc hs] at h; cases h
  by_cases hl : pc < 105
  · exact am_chkR_use am_k145_0 (by omega) (by omega) h
  exact absurd hs (by omega)
set_option maxRecDepth 100000 in
theorem am_k146_0 : am_chkR 146 0 32 = true := by decide +kernel
theorem am_n146 (pc : Nat) (h : 32 ≤ pc) : am_code 146 pc = none := by
  show cond (Nat.ble 32 pc) none _ = none
  rw [Nat.ble_eq_true_of_le h]
  rfl
theorem am_q146 {pc : Nat} {e : EI} (h : am_code 146 pc = some e) : am_chk 146 pc e = true := by
  by_cases hs : 32 ≤ pc
  · rw [am_n146 pc hs] at h; cases h
  by_cases hl : pc < 32
  · exact am_chkR_use am_k146_0 (by omega) (by omega) h
  exact absurd hs (by omega)
set_option maxRecDepth 100000 in
theorem am_k147_0 : am_chkR 147 0 33 = true := by decide +kernel
theorem am_n147 (pc : Nat) (h : 33 ≤ pc) : am_code 147 pc = none := by
  show cond (Nat.ble 33 pc) none _ = none
  rw [Nat.ble_eq_true_of_le h]
  rfl
theorem am_q147 {pc : Nat} {e : EI} (h : am_code 147 pc = some e) : am_chk 147 pc e = true := by
  by_cases hs : 33 ≤ pc
  · rw [am_n147 pc hs] at h; cases h
  by_cases hl : pc < 33
  · exact am_chkR_use am_k147_0 (by omega) (by omega) h
  exact absurd hs (by omega)
set_option maxRecDepth 100000 in
theorem am_k148_0 : am_chkR 148 0 33 = true := by decide +kernel
theorem am_n148 (pc : Nat) (h : 33 ≤ pc) : am_code 148 pc = none := by
  show cond (Nat.ble 33 pc) none _ = none
  rw [Nat.ble_eq_true_of_le h]
  rfl
theorem am_q148 {pc : Nat} {e : EI} (h : am_code 148 pc = some e) : am_chk 148 pc e = true := by
  by_cases hs : 33 ≤ pc
  · rw [am_n148 pc hs] at h; cases h
  by_cases hl : pc < 33
  · exact am_chkR_use am_k148_0 (by omega) (by omega) h
  exact absurd hs (by omega)
set_option maxRecDepth 100000 in
theorem am_k149_0 : am_chkR 149 0 46 = true := by decide +kernel
theorem am_n149 (pc : Nat) (h : 46 ≤ pc) : am_code 149 pc = none := by
  show cond (Nat.ble 46 pc) none _ = none
  rw [Nat.ble_eq_true_of_le h]
  rfl
theorem am_q149 {pc : Nat} {e : EI} (h : am_code 149 pc = some e) : am_chk 149 pc e = true := by
  by_cases hs : 46 ≤ pc
  · rw [am_n149 pc hs] at h; cases h
  by_cases hl : pc < 46
  · exact am_chkR_use am_k149_0 (by omega) (by omega) h
  exact absurd hs (by omega)
set_option maxRecDepth 100000 in
theorem am_k150_0 : am_chkR 150 0 22 = true := by decide +kernel
theorem am_n150 (pc : Nat) (h : 22 ≤ pc) : am_code 150 pc = none := by
  show cond (Nat.ble 22 pc) none _ = none
  rw [Nat.ble_eq_true_of_le h]
  rfl
theorem am_q150 {pc : Nat} {e : EI} (h : am_code 150 pc = some e) : am_chk 150 pc e = true := by
  by_cases hs : 22 ≤ pc
  · rw [am_n150 pc hs] at h; cases h
  by_cases hl : pc < 22
  · exact am_chkR_use am_k150_0 (by omega) (by omega) h
  exact absurd hs (by omega)
set_option maxRecDepth 100000 in
theorem am_k151_0 : am_chkR 151 0 63 = true := by decide +kernel
theorem am_n151 (pc : Nat) (h : 63 ≤ pc) : am_code 151 pc = none := by
  show cond (Nat.ble 63 pc) none _ = none
  rw [Nat.ble_eq_true_of_le h]
  rfl
theorem am_q151 {pc : Nat} {e : EI} (h : am_code 151 pc = some e) : am_chk 151 pc e = true := by
  by_cases hs : 63 ≤ pc
  · rw [am_n151 pc hs] at h; cases h
  by_cases hl : pc < 63
  · exact am_chkR_use am_k151_0 (by omega) (by omega) h
  exact absurd hs (by omega)
set_option maxRecDepth 100000 in
theorem am_k152_0 : am_chkR 152 0 25 = true := by decide +kernel
theorem am_n152 (pc : Nat) (h : 25 ≤ pc) : am_code 152 pc = none := by
  show cond (Nat.ble 25 pc) none _ = none
  rw [Nat.ble_eq_true_of_le h]
  rfl
theorem am_q152 {pc : Nat} {e : EI} (h : am_code 152 pc = some e) : am_chk 152 pc e = true := by
  by_cases hs : 25 ≤ pc
  · rw [am_n152 pc hs] at h; cases h
  by_cases hl : pc < 25
  · exact am_chkR_use am_k152_0 (by omega) (by omega) h
  exact absurd hs (by omega)
set_option maxRecDepth 100000 in
theorem am_k153_0 : am_chkR 153 0 154 = true := by decide +kernel
theorem am_n153 (pc : Nat) (h : 154 ≤ pc) : am_code 153 pc = none := by
  show cond (Nat.ble 154 pc) none _ = none
  rw [Nat.ble_eq_true_of_le h]
  rfl
theorem am_q153 {pc : Nat} {e : EI} (h : am_code 153 pc = some e) : am_chk 153 pc e = true := by
  by_cases hs : 154 ≤ pc
  · rw [am_n153 pc hs] at h; cases h
  by_cases hl : pc < 154
  · exact am_chkR_use am_k153_0 (by omega) (by omega) h
  exact absurd hs (by omega)
set_option maxRecDepth 100000 in
theorem am_k154_0 : am_chkR 154 0 15 = true := by decide +kernel
theorem am_n154 (pc : Nat) (h : 15 ≤ pc) : am_code 154 pc = none := by
  show cond (Nat.ble 15 pc) none _ = none
  rw [Nat.ble_eq_true_of_le h]
  rfl
theorem am_q154 {pc : Nat} {e : EI} (h : am_code 154 pc = some e) : am_chk 154 pc e = true := by
  by_cases hs : 15 ≤ pc
  · rw [am_n154 pc hs] at h; cases h
  by_cases hl : pc < 15
  · exact am_chkR_use am_k154_0 (by omega) (by omega) h
  exact absurd hs (by omega)
set_option maxRecDepth 100000 in
theorem am_k155_0 : am_chkR 155 0 50 = true := by decide +kernel
theorem am_n155 (pc : Nat) (h : 50 ≤ pc) : am_code 155 pc = none := by
  show cond (Nat.ble 50 pc) none _ = none
  rw [Nat.ble_eq_true_of_le h]
  rfl
theorem am_q155 {pc : Nat} {e : EI} (h : am_code 155 pc = some e) : am_chk 155 pc e = true := by
  by_cases hs : 50 ≤ pc
  · rw [am_n155 pc hs] at h; cases h
  by_cases hl : pc < 50
  · exact am_chkR_use am_k155_0 (by omega) (by omega) h
  exact absurd hs (by omega)
set_option maxRecDepth 100000 in
theorem am_k156_0 : am_chkR 156 0 81 = true := by decide +kernel
theorem am_n156 (pc : Nat) (h : 81 ≤ pc) : am_code 156 pc = none := by
  show cond (Nat.ble 81 pc) none _ = none
  rw [Nat.ble_eq_true_of_le h]
  rfl
theorem am_q156 {pc : Nat} {e : EI} (h : am_code 156 pc = some e) : am_chk 156 pc e = true := by
  by_cases hs : 81 ≤ pc
  · rw [am_n156 pc hs] at h; cases h
  by_cases hl : pc < 81
  · exact am_chkR_use am_k156_0 (by omega) (by omega) h
  exact absurd hs (by omega)
set_option maxRecDepth 100000 in
theorem am_k157_0 : am_chkR 157 0 61 = true := by decide +kernel
theorem am_n157 (pc : Nat) (h : 61 ≤ pc) : am_code 157 pc = none := by
  show cond (Nat.ble 61 pc) none _ = none
  rw [Nat.ble_eq_true_of_le h]
  rfl
theorem am_q157 {pc : Nat} {e : EI} (h : am_code 157 pc = some e) : am_chk 157 pc e = true := by
  by_cases hs : 61 ≤ pc
  · rw [am_n157 pc hs] at h; cases h
  by_cases hl : pc < 61
  · exact am_chkR_use am_k157_0 (by omega) (by omega) h
  exact absurd hs (by omega)
set_option maxRecDepth 100000 in
theorem am_k158_0 : am_chkR 158 0 54 = true := by decide +kernel
theorem am_n158 (pc : Nat) (h : 54 ≤ pc) : am_code 158 pc = none := by
  show cond (Nat.ble 54 pc) none _ = none
  rw [Nat.ble_eq_true_of_le h]
  rfl
theorem am_q158 {pc : Nat} {e : EI} (h : am_code 158 pc = some e) : am_chk 158 pc e = true := by
  by_cases hs : 54 ≤ pc
  · rw [am_n158 pc hs] at h; cases h
  by_cases hl : pc < 54
  · exact am_chkR_use am_k158_0 (by omega) (by omega) h
  exact absurd hs (by omega)
set_option maxRecDepth 100000 in
theorem am_k159_0 : am_chkR 159 0 5 = true := by decide +kernel
theorem am_n159 (pc : Nat) (h : 5 ≤ pc) : am_code 159 pc = none := by
  show cond (Nat.ble 5 pc) none _ = none
  rw [Nat.ble_eq_true_of_le h]
  rfl
theorem am_q159 {pc : Nat} {e : EI} (h : am_code 159 pc = some e) : am_chk 159 pc e = true := by
  by_cases hs : 5 ≤ pc
  · rw [am_n159 pc hs] at h; cases h
  by_cases hl : pc < 5
  · exact am_chkR_use am_k159_0 (by omega) (by omega) h
  exact absurd hs (by omega)
set_option maxRecDepth 100000 in
theorem am_k160_0 : am_chkR 160 0 25 = true := by decide +kernel
theorem am_n160 (pc : Nat) (h : 25 ≤ pc) : am_code 160 pc = none := by
  show cond (Nat.ble 25 pc) none _ = none
  rw [Nat.ble_eq_true_of_le h]
  rfl
theorem am_q160 {pc : Nat} {e : EI} (h : am_code 160 pc = some e) : am_chk 160 pc e = true := by
  by_cases hs : 25 ≤ pc
  · rw [am_n160 pc hs] at h; cases h
  by_cases hl : pc < 25
  · exact am_chkR_use am_k160_0 (by omega) (by omega) h
  exact absurd hs (by omega)
set_option maxRecDepth 100000 in
theorem am_k161_0 : am_chkR 161 0 14 = true := by decide +kernel
theorem am_n161 (pc : Nat) (h : 14 ≤ pc) : am_code 161 pc = none := by
  show cond (Nat.ble 14 pc) none _ = none
  rw [Nat.ble_eq_true_of_le h]
  rfl
theorem am_q161 {pc : Nat} {e : EI} (h : am_code 161 pc = some e) : am_chk 161 pc e = true := by
  by_cases hs : 14 ≤ pc
  · rw [am_n161 pc hs] at h; cases h
  by_cases hl : pc < 14
  · exact am_chkR_use am_k161_0 (by omega) (by omega) h
  exact absurd hs (by omega)
set_option maxRecDepth 100000 in
theorem am_k162_0 : am_chkR 162 0 20 = true := by decide +kernel
theorem am_n162 (pc : Nat) (h : 20 ≤ pc) : am_code 162 pc = none := by
  show cond (Nat.ble 20 pc) none _ = none
  rw [Nat.ble_eq_true_of_le h]
  rfl
theorem am_q162 {pc : Nat} {e : EI} (h : am_code 162 pc = some e) : am_chk 162 pc e = true := by
  by_cases hs : 20 ≤ pc
  · rw [am_n162 pc hs] at h; cases h
  by_cases hl : pc < 20
  · exact am_chkR_use am_k162_0 (by omega) (by omega) h
  exact absurd hs (by omega)
set_option maxRecDepth 100000 in
theorem am_k163_0 : am_chkR 163 0 47 = true := by decide +kernel
theorem am_n163 (pc : Nat) (h : 47 ≤ pc) : am_code 163 pc = none := by
  show cond (Nat.ble 47 pc) none _ = none
  rw [Nat.ble_eq_true_of_le h]
  rfl
theorem am_q163 {pc : Nat} {e : EI} (h : am_code 163 pc = some e) : am_chk 163 pc e = true := by
  by_cases hs : 47 ≤ pc
  · rw [am_n163 pc hs] at h; cases h
  by_cases hl : pc < 47
  · exact am_chkR_use am_k163_0 (by omega) (by omega) h
  exact absurd hs (by omega)
set_option maxRecDepth 100000 in
theorem am_k164_0 : am_chkR 164 0 32 = true := by decide +kernel
theorem am_n164 (pc : Nat) (h : 32 ≤ pc) : am_code 164 pc = none := by
  show cond (Nat.ble 32 pc) none _ = none
  rw [Nat.ble_eq_true_of_le h]
  rfl
theorem am_q164 {pc : Nat} {e : EI} (h : am_code 164 pc = some e) : am_chk 164 pc e = true := by
  by_cases hs : 32 ≤ pc
  · rw [am_n164 pc hs] at h; cases h
  by_cases hl : pc < 32
  · exact am_chkR_use am_k164_0 (by omega) (by omega) h
  exact absurd hs (by omega)
set_option maxRecDepth 100000 in
theorem am_k165_0 : am_chkR 165 0 34 = true := by decide +kernel
theorem am_n165 (pc : Nat) (h : 34 ≤ pc) : am_code 165 pc = none := by
  show cond (Nat.ble 34 pc) none _ = none
  rw [Nat.ble_eq_true_of_le h]
  rfl
theorem am_q165 {pc : Nat} {e : EI} (h : am_code 165 pc = some e) : am_chk 165 pc e = true := by
  by_cases hs : 34 ≤ pc
  · rw [am_n165 pc hs] at h; cases h
  by_cases hl : pc < 34
  · exact am_chkR_use am_k165_0 (by omega) (by omega) h
  exact absurd hs (by omega)
set_option maxRecDepth 100000 in
theorem am_k166_0 : am_chkR 166 0 160 = true := by decide +kernel
set_option maxRecDepth 100000 in
theorem am_k166_160 : am_chkR 166 160 59 = true := by decide +kernel
theorem am_n166 (pc : Nat) (h : 219 ≤ pc) : am_code 166 pc = none := by
  show cond (Nat.ble 219 pc) none _ = none
  rw [Nat.ble_eq_true_of_le h]
  rfl
theorem am_q166 {pc : Nat} {e : EI} (h : am_code 166 pc = some e) : am_chk 166 pc e = true := by
  by_cases hs : 219 ≤ pc
  · rw [am_n166 pc hs] at h; cases h
  by_cases hl : pc < 160
  · exact am_chkR_use am_k166_0 (by omega) (by omega) h
  by_cases hl : pc < 219
  · exact am_chkR_use am_k166_160 (by omega) (by omega) h
  exact absurd hs (by omega)
set_option maxRecDepth 100000 in
theorem am_k167_0 : am_chkR 167 0 48 = true := by decide +kernel
theorem am_n167 (pc : Nat) (h : 48 ≤ pc) : am_code 167 pc = none := by
  show cond (Nat.ble 48 pc) none _ = none
  rw [Nat.ble_eq_true_of_le h]
  rfl
theorem am_q167 {pc : Nat} {e : EI} (h : am_code 167 pc = some e) : am_chk 167 pc e = true := by
  by_cases hs : 48 ≤ pc
  · rw [am_n167 pc hs] at h; cases h
  by_cases hl : pc < 48
  · exact am_chkR_use am_k167_0 (by omega) (by omega) h
  exact absurd hs (by omega)
set_option maxRecDepth 100000 in
theorem am_k168_0 : am_chkR 168 0 13 = true := by decide +kernel
theorem am_n168 (pc : Nat) (h : 13 ≤ pc) : am_code 168 pc = none := by
  show cond (Nat.ble 13 pc) none _ = none
  rw [Nat.ble_eq_true_of_le h]
  rfl
theorem am_q168 {pc : Nat} {e : EI} (h : am_code 168 pc = some e) : am_chk 168 pc e = true := by
  by_cases hs : 13 ≤ pc
  · rw [am_n168 pc hs] at h; cases h
  by_cases hl : pc < 13
  · exact am_chkR_use am_k168_0 (by omega) (by omega) h
  exact absurd hs (by omega)
set_option maxRecDepth 100000 in
theorem am_k169_0 : am_chkR 169 0 5 = true := by decide +kernel
theorem am_n169 (pc : Nat) (h : 5 ≤ pc) : am_code 169 pc = none := by
  show cond (Nat.ble 5 pc) none _ = none
  rw [Nat.ble_eq_true_of_le h]
  rfl
theorem am_q169 {pc : Nat} {e : EI} (h : am_code 169 pc = some e) : am_chk 169 pc e = true := by
  by_cases hs : 5 ≤ pc
  · rw [am_n169 pc hs] at h; cases h
  by_cases hl : pc < 5
  · exact am_chkR_use am_k169_0 (by omega) (by omega) h
  exact absurd hs (by omega)
set_option maxRecDepth 100000 in
theorem am_k170_0 : am_chkR 170 0 49 = true := by decide +kernel
theorem am_n170 (pc : Nat) (h : 49 ≤ pc) : am_code 170 pc = none := by
  show cond (Nat.ble 49 pc) none _ = none
  rw [Nat.ble_eq_true_of_le h]
  rfl
theorem am_q170 {pc : Nat} {e : EI} (h : am_code 170 pc = some e) : am_chk 170 pc e = true := by
  by_cases hs : 49 ≤ pc
  · rw [am_n170 pc hs] at h; cases h
  by_cases hl : pc < 49
  · exact am_chkR_use am_k170_0 (by omega) (by omega) h
  exact absurd hs (by omega)
set_option maxRecDepth 100000 in
theorem am_k171_0 : am_chkR 171 0 108 = true := by decide +kernel
theorem am_n171 (pc : Nat) (h : 108 ≤ pc) : am_code 171 pc = none := by
  show cond (Nat.ble 108 pc) none _ = none
  rw [Nat.ble_eq_true_of_le h]
  rfl
theorem am_q171 {pc : Nat} {e : EI} (h : am_code 171 pc = some e) : am_chk 171 pc e = true := by
  by_cases hs : 108 ≤ pc
  · rw [am_n171 pc hs] at h; cases h
  by_cases hl : pc < 108
  · exact am_chkR_use am_k171_0 (by omega) (by omega) h
  exact absurd hs (by omega)
set_option maxRecDepth 100000 in
theorem am_k172_0 : am_chkR 172 0 120 = true := by decide +kernel
theorem am_n172 (pc : Nat) (h : 120 ≤ pc) : am_code 172 pc = none := by
  show cond (Nat.ble 120 pc) none _ = none
  rw [Nat.ble_eq_true_of_le h]
  rfl
theorem am_q172 {pc : Nat} {e : EI} (h : am_code 172 pc = some e) : am_chk 172 pc e = true := by
  by_cases hs : 120 ≤ pc
  · rw [am_n172 pc hs] at h; cases h
  by_cases hl : pc < 120
  · exact am_chkR_use am_k172_0 (by omega) (by omega) h
  exact absurd hs (by omega)
set_option maxRecDepth 100000 in
theorem am_k173_0 : am_chkR 173 0 37 = true := by decide +kernel
theorem am_n173 (pc : Nat) (h : 37 ≤ pc) : am_code 173 pc = none := by
  show cond (Nat.ble 37 pc) none _ = none
  rw [Nat.ble_eq_true_of_le h]
  rfl
theorem am_q173 {pc : Nat} {e : EI} (h : am_code 173 pc = some e) : am_chk 173 pc e = true := by
  by_cases hs : 37 ≤ pc
  · rw [am_n173 pc hs] at h; cases h
  by_cases hl : pc < 37
  · exact am_chkR_use am_k173_0 (by omega) (by omega) h
  exact absurd hs (by omega)
set_option maxRecDepth 100000 in
theorem am_k174_0 : am_chkR 174 0 82 = true := by decide +kernel
theorem am_n174 (pc : Nat) (h : 82 ≤ pc) : am_code 174 pc = none := by
  show cond (Nat.ble 82 pc) none _ = none
  rw [Nat.ble_eq_true_of_le h]
  rfl
theorem am_q174 {pc : Nat} {e : EI} (h : am_code 174 pc = some e) : am_chk 174 pc e = true := by
  by_cases hs : 82 ≤ pc
  · rw [am_n174 pc hs] at h; cases h
  by_cases hl : pc < 82
  · exact am_chkR_use am_k174_0 (by omega) (by omega) h
  exact absurd hs (by omega)
set_option maxRecDepth 100000 in
theorem am_k175_0 : am_chkR 175 0 91 = true := by decide +kernel
theorem am_n175 (pc : Nat) (h : 91 ≤ pc) : am_code 175 pc = none := by
  show cond (Nat.ble 91 pc) none _ = none
  rw [Nat.ble_eq_true_of_le h]
  rfl
theorem am_q175 {pc : Nat} {e : EI} (h : am_code 175 pc = some e) : am_chk 175 pc e = true := by
  by_cases hs : 91 ≤ pc
  · rw [am_n175 pc hs] at h; cases h
  by_cases hl : pc < 91
  · exact am_chkR_use am_k175_0 (by omega) (by omega) h
  exact absurd hs (by omega)
set_option maxRecDepth 100000 in
theorem am_k176_0 : am_chkR 176 0 29 = true := by decide +kernel
theorem am_n176 (pc : Nat) (h : 29 ≤ pc) : am_code 176 pc = none := by
  show cond (Nat.ble 29 pc) none _ = none
  rw [Nat.ble_eq_true_of_le h]
  rfl
theorem am_q176 {pc : Nat} {e : EI} (h : am_code 176 pc = some e) : am_chk 176 pc e = true := by
  by_cases hs : 29 ≤ pc
  · rw [am_n176 pc hs] at h; cases h
  by_cases hl : pc < 29
  · exact am_chkR_use am_k176_0 (by omega) (by omega) h
  exact absurd hs (by omega)
set_option maxRecDepth 100000 in
theorem am_k177_0 : am_chkR 177 0 160 = true := by decide +kernel
set_option maxRecDepth 100000 in
theorem am_k177_160 : am_chkR 177 160 23 = true := by decide +kernel
theorem am_n177 (pc : Nat) (h : 183 ≤ pc) : am_code 177 pc = none := by
  show cond (Nat.ble 183 pc) none _ = none
  rw [Nat.ble_eq_true_of_le h]
  rfl
theorem am_q177 {pc : Nat} {e : EI} (h : am_code 177 pc = some e) : am_chk 177 pc e = true := by
  by_cases hs : 183 ≤ pc
  · rw [am_n177 pc hs] at h; cases h
  by_cases hl : pc < 160
  · exact am_chkR_use am_k177_0 (by omega) (by omega) h
  by_cases hl : pc < 183
  · exact am_chkR_use am_k177_160 (by omega) (by omega) h
  exact absurd hs (by omega)
set_option maxRecDepth 100000 in
theorem am_k178_0 : am_chkR 178 0 70 = true := by decide +kernel
theorem am_n178 (pc : Nat) (h : 70 ≤ pc) : am_code 178 pc = none := by
  show cond (Nat.ble 70 pc) none _ = none
  rw [Nat.ble_eq_true_of_le h]
  rfl
theorem am_q178 {pc : Nat} {e : EI} (h : am_code 178 pc = some e) : am_chk 178 pc e = true := by
  by_cases hs : 70 ≤ pc
  · rw [am_n178 pc hs] at h; cases h
  by_cases hl : pc < 70
  · exact am_chkR_use am_k178_0 (by omega) (by omega) h
  exact absurd hs (by omega)
set_option maxRecDepth 100000 in
theorem am_k179_0 : am_chkR 179 0 5 = true := by decide +kernel
theorem am_n179 (pc : Nat) (h : 5 ≤ pc) : am_code 179 pc = none := by
  show cond (Nat.ble 5 pc) none _ = none
  rw [Nat.ble_eq_true_of_le h]
  rfl
theorem am_q179 {pc : Nat} {e : EI} (h : am_code 179 pc = some e) : am_chk 179 pc e = true := by
  by_cases hs : 5 ≤ pc
  · rw [am_n179 pc hs] at h; cases h
  by_cases hl : pc < 5
  · exact am_chkR_use am_k179_0 (by omega) (by omega) h
  exact absurd hs (by omega)
set_option maxRecDepth 100000 in
theorem am_k180_0 : am_chkR 180 0 65 = true := by decide +kernel
theorem am_n180 (pc : Nat) (h : 65 ≤ pc) : am_code 180 pc = none := by
  show cond (Nat.ble 65 pc) none _ = none
  rw [Nat.ble_eq_true_of_le h]
  rfl
theorem am_q180 {pc : Nat} {e : EI} (h : am_code 180 pc = some e) : am_chk 180 pc e = true := by
  by_cases hs : 65 ≤ pc
  · rw [am_n180 pc hs] at h; cases h
  by_cases hl : pc < 65
  · exact am_chkR_use am_k180_0 (by omega) (by omega) h
  exact absurd hs (by omega)
set_option maxRecDepth 100000 in
theorem am_k181_0 : am_chkR 181 0 31 = true := by decide +kernel
theorem am_n181 (pc : Nat) (h : 31 ≤ pc) : am_code 181 pc = none := by
  show cond (Nat.ble 31 pc) none _ = none
  rw [Nat.ble_eq_true_of_le h]
  rfl
theorem am_q181 {pc : Nat} {e : EI} (h : am_code 181 pc = some e) : am_chk 181 pc e = true := by
  by_cases hs : 31 ≤ pc
  · rw [am_n181 pc hs] at h; cases h
  by_cases hl : pc < 31
  · exact am_chkR_use am_k181_0 (by omega) (by omega) h
  exact absurd hs (by omega)
set_option maxRecDepth 100000 in
theorem am_k182_0 : am_chkR 182 0 25 = true := by decide +kernel
theorem am_n182 (pc : Nat) (h : 25 ≤ pc) : am_code 182 pc = none := by
  show cond (Nat.ble 25 pc) none _ = none
  rw [Nat.ble_eq_true_of_le h]
  rfl
theorem am_q182 {pc : Nat} {e : EI} (h : am_code 182 pc = some e) : am_chk 182 pc e = true := by
  by_cases hs : 25 ≤ pc
  · rw [am_n182 pc hs] at h; cases h
  by_cases hl : pc < 25
  · exact am_chkR_use am_k182_0 (by omega) (by omega) h
  exact absurd hs (by omega)
set_option maxRecDepth 100000 in
theorem am_k183_0 : am_chkR 183 0 48 = true := by decide +kernel
theorem am_n183 (pc : Nat) (h : 48 ≤ pc) : am_code 183 pc = none := by
  show cond (Nat.ble 48 pc) none _ = none
  rw [Nat.ble_eq_true_of_le h]
  rfl
theorem am_q183 {pc : Nat} {e : EI} (h : am_code 183 pc = some e) : am_chk 183 pc e = true := by
  by_cases hs : 48 ≤ pc
  · rw [am_n183 pc hs] at h; cases h
  by_cases hl : pc < 48
  · exact am_chkR_use am_k183_0 (by omega) (by omega) h
  exact absurd hs (by omega)
set_option maxRecDepth 100000 in
theorem am_k184_0 : am_chkR 184 0 33 = true := by decide +kernel
theorem am_n184 (pc : Nat) (h : 33 ≤ pc) : am_code 184 pc = none := by
  show cond (Nat.ble 33 pc) none _ = none
  rw [Nat.ble_eq_true_of_le h]
  rfl
theorem am_q184 {pc : Nat} {e : EI} (h : am_code 184 pc = some e) : am_chk 184 pc e = true := by
  by_cases hs : 33 ≤ pc
  · rw [am_n184 pc hs] at h; cases h
  by_cases hl : pc < 33
  · exact am_chkR_use am_k184_0 (by omega) (by omega) h
  exact absurd hs (by omega)
set_option maxRecDepth 100000 in
theorem am_k185_0 : am_chkR 185 0 80 = true := by decide +kernel
theorem am_n185 (pc : Nat) (h : 80 ≤ pc) : am_code 185 pc = none := by
  show cond (Nat.ble 80 pc) none _ = none
  rw [Nat.ble_eq_true_of_le h]
  rfl
theorem am_q185 {pc : Nat} {e : EI} (h : am_code 185 pc = some e) : am_chk 185 pc e = true := by
  by_cases hs : 80 ≤ pc
  · rw [am_n185 pc hs] at h; cases h
  by_cases hl : pc < 80
  · exact am_chkR_use am_k185_0 (by omega) (by omega) h
  exact absurd hs (by omega)
set_option maxRecDepth 100000 in
theorem am_k186_0 : am_chkR 186 0 43 = true := by decide +kernel
theorem am_n186 (pc : Nat) (h : 43 ≤ pc) : am_code 186 pc = none := by
  show cond (Nat.ble 43 pc) none _ = none
  rw [Nat.ble_eq_true_of_le h]
  rfl
theorem am_q186 {pc : Nat} {e : EI} (h : am_code 186 pc = some e) : am_chk 186 pc e = true := by
  by_cases hs : 43 ≤ pc
  · rw [am_n186 pc hs] at h; cases h
  by_cases hl : pc < 43
  · exact am_chkR_use am_k186_0 (by omega) (by omega) h
  exact absurd hs (by omega)
set_option maxRecDepth 100000 in
theorem am_k187_0 : am_chkR 187 0 38 = true := by decide +kernel
theorem am_n187 (pc : Nat) (h : 38 ≤ pc) : am_code 187 pc = none := by
  show cond (Nat.ble 38 pc) none _ = none
  rw [Nat.ble_eq_true_of_le h]
  rfl
theorem am_q187 {pc : Nat} {e : EI} (h : am_code 187 pc = some e) : am_chk 187 pc e = true := by
  by_cases hs : 38 ≤ pc
  · rw [am_n187 pc hs] at h; cases h
  by_cases hl : pc < 38
  · exact am_chkR_use am_k187_0 (by omega) (by omega) h
  exact absurd hs (by omega)
set_option maxRecDepth 100000 in
theorem am_k188_0 : am_chkR 188 0 100 = true := by decide +kernel
theorem am_n188 (pc : Nat) (h : 100 ≤ pc) : am_code 188 pc = none := by
  show cond (Nat.ble 100 pc) none _ = none
  rw [Nat.ble_eq_true_of_le h]
  rfl
theorem am_q188 {pc : Nat} {e : EI} (h : am_code 188 pc = some e) : am_chk 188 pc e = true := by
  by_cases hs : 100 ≤ pc
  · rw [am_n188 pc hs] at h; cases h
  by_cases hl : pc < 100
  · exact am_chkR_use am_k188_0 (by omega) (by omega) h
  exact absurd hs (by omega)
set_option maxRecDepth 100000 in
theorem am_k189_0 : am_chkR 189 0 104 = true := by decide +kernel
theorem am_n189 (pc : Nat) (h : 104 ≤ pc) : am_code 189 pc = none := by
  show cond (Nat.ble 104 pc) none _ = none
  rw [Nat.ble_eq_true_of_le h]
  rfl
theorem am_q189 {pc : Nat} {e : EI} (h : am_code 189 pc = some e) : am_chk 189 pc e = true := by
  by_cases hs : 104 ≤ pc
  · rw [am_n189 pc hs] at h; cases h
  by_cases hl : pc < 104
  · exact am_chkR_use am_k189_0 (by omega) (by omega) h
  exact absurd hs (by omega)
set_option maxRecDepth 100000 in
theorem am_k190_0 : am_chkR 190 0 67 = true := by decide +kernel
theorem am_n190 (pc : Nat) (h : 67 ≤ pc) : am_code 190 pc = none := by
  show cond (Nat.ble 67 pc) none _ = none
  rw [Nat.ble_eq_true_of_le h]
  rfl
theorem am_q190 {pc : Nat} {e : EI} (h : am_code 190 pc = some e) : am_chk 190 pc e = true := by
  by_cases hs : 67 ≤ pc
  · rw [am_n190 pc hs] at h; cases h
  by_cases hl : pc < 67
  · exact am_chkR_use am_k190_0 (by omega) (by omega) h
  exact absurd hs (by omega)
set_option maxRecDepth 100000 in
theorem am_k191_0 : am_chkR 191 0 160 = true := by decide +kernel
set_option maxRecDepth 100000 in
theorem am_k191_160 : am_chkR 191 160 62 = true := by decide +kernel
theorem am_n191 (pc : Nat) (h : 222 ≤ pc) : am_code 191 pc = none := by
  show cond (Nat.ble 222 pc) none _ = none
  rw [Nat.ble_eq_true_of_le h]
  rfl
theorem am_q191 {pc : Nat} {e : EI} (h : am_code 191 pc = some e) : am_chk 191 pc e = true := by
  by_cases hs : 222 ≤ pc
  · rw [am_n191 pc hs] at h; cases h
  by_cases hl : pc < 160
  · exact am_chkR_use am_k191_0 (by omega) (by omega) h
  by_cases hl : pc < 222
  · exact am_chkR_use am_k191_160 (by omega) (by omega) h
  exact absurd hs (by omega)
set_option maxRecDepth 100000 in
theorem am_k192_0 : am_chkR 192 0 53 = true := by decide +kernel
theorem am_n192 (pc : Nat) (h : 53 ≤ pc) : am_code 192 pc = none := by
  show cond (Nat.ble 53 pc) none _ = none
  rw [Nat.ble_eq_true_of_le h]
  rfl
theorem am_q192 {pc : Nat} {e : EI} (h : am_code 192 pc = some e) : am_chk 192 pc e = true := by
  by_cases hs : 53 ≤ pc
  · rw [am_n192 pc hs] at h; cases h
  by_cases hl : pc < 53
  · exact am_chkR_use am_k192_0 (by omega) (by omega) h
  exact absurd hs (by omega)
set_option maxRecDepth 100000 in
theorem am_k193_0 : am_chkR 193 0 21 = true := by decide +kernel
theorem am_n193 (pc : Nat) (h : 21 ≤ pc) : am_code 193 pc = none := by
  show cond (Nat.ble 21 pc) none _ = none
  rw [Nat.ble_eq_true_of_le h]
  rfl
theorem am_q193 {pc : Nat} {e : EI} (h : am_code 193 pc = some e) : am_chk 193 pc e = true := by
  by_cases hs : 21 ≤ pc
  · rw [am_n193 pc hs] at h; cases h
  by_cases hl : pc < 21
  · exact am_chkR_use am_k193_0 (by omega) (by omega) h
  exact absurd hs (by omega)
set_option maxRecDepth 100000 in
theorem am_k194_0 : am_chkR 194 0 160 = true := by decide +kernel
set_option maxRecDepth 100000 in
theorem am_k194_160 : am_chkR 194 160 160 = true := by decide +kernel
set_option maxRecDepth 100000 in
theorem am_k194_320 : am_chkR 194 320 160 = true := by decide +kernel
set_option maxRecDepth 100000 in
theorem am_k194_480 : am_chkR 194 480 160 = true := by decide +kernel
set_option maxRecDepth 100000 in
theorem am_k194_640 : am_chkR 194 640 160 = true := by decide +kernel
set_option maxRecDepth 100000 in
theorem am_k194_800 : am_chkR 194 800 160 = true := by decide +kernel
set_option maxRecDepth 100000 in
theorem am_k194_960 : am_chkR 194 960 160 = true := by decide +kernel
set_option maxRecDepth 100000 in
theorem am_k194_1120 : am_chkR 194 1120 89 = true := by decide +kernel
theorem am_n194 (pc : Nat) (h : 1209 ≤ pc) : am_code 194 pc = none := by
  show cond (Nat.ble 1209 pc) none _ = none
  rw [Nat.ble_eq_true_of_le h]
  rfl
theorem am_q194 {pc : Nat} {e : EI} (h : am_code 194 pc = some e) : am_chk 194 pc e = true := by
  by_cases hs : 1209 ≤ pc
  · rw [am_n194 pc hs] at h; cases h
  by_cases hl : pc < 160
  · exact am_chkR_use am_k194_0 (by omega) (by omega) h
  by_cases hl : pc < 320
  · exact am_chkR_use am_k194_160 (by omega) (by omega) h
  by_cases hl : pc < 480
  · exact am_chkR_use am_k194_320 (by omega) (by omega) h
  by_cases hl : pc < 640
  · exact am_chkR_use am_k194_480 (by omega) (by omega) h
  by_cases hl : pc < 800
  · exact am_chkR_use am_k194_640 (by omega) (by omega) h
  by_cases hl : pc < 960
  · exact am_chkR_use am_k194_800 (by omega) (by omega) h
  by_cases hl : pc < 1120
  · exact am_chkR_use am_k194_960 (by omega) (by omega) h
  by_cases hl : pc < 1209
  · exact am_chkR_use am_k194_1120 (by omega) (by omega) h
  exact absurd hs (by omega)
set_option maxHeartbeats 4000000 in
theorem am_chk_of {m pc : Nat} {e : EI} (hm : m < 195) (h : am_code m pc = some e) : am_chk m pc e = true := by
  by_cases h97 : m ≤ 97
  · by_cases h48 : m ≤ 48
    · by_cases h24 : m ≤ 24
      · by_cases h12 : m ≤ 12
        · by_cases h6 : m ≤ 6
          · by_cases h3 : m ≤ 3
            · by_cases h1 : m ≤ 1
              · by_cases h0 : m ≤ 0
                · have e : m = 0 := by omega
                  subst e
                  exact am_q0 h
                · have e : m = 1 := by omega
                  subst e
                  exact am_q1 h
              · by_cases h2 : m ≤ 2
                · have e : m = 2 := by omega
                  subst e
                  exact am_q2 h
                · have e : m = 3 := by omega
                  subst e
                  exact am_q3 h
            · by_cases h5 : m ≤ 5
              · by_cases h4 : m ≤ 4
                · have e : m = 4 := by omega
                  subst e
                  exact am_q4 h
                · have e : m = 5 := by omega
                  subst e
                  exact am_q5 h
              · have e : m = 6 := by omega
                subst e
                exact am_q6 h
          · by_cases h9 : m ≤ 9
            · by_cases h8 : m ≤ 8
              · by_cases h7 : m ≤ 7
                · have e : m = 7 := by omega
                  subst e
                  exact am_q7 h
                · have e : m = 8 := by omega
                  subst e
                  exact am_q8 h
              · have e : m = 9 := by omega
                subst e
                exact am_q9 h
            · by_cases h11 : m ≤ 11
              · by_cases h10 : m ≤ 10
                · have e : m = 10 := by omega
                  subst e
                  exact am_q10 h
                · have e : m = 11 := by omega
                  subst e
                  exact am_q11 h
              · have e : m = 12 := by omega
                subst e
                exact am_q12 h
        · by_cases h18 : m ≤ 18
          · by_cases h15 : m ≤ 15
            · by_cases h14 : m ≤ 14
              · by_cases h13 : m ≤ 13
                · have e : m = 13 := by omega
                  subst e
                  exact am_q13 h
                · have e : m = 14 := by omega
                  subst e
                  exact am_q14 h
              · have e : m = 15 := by omega
                subst e
                exact am_q15 h
            · by_cases h17 : m ≤ 17
              · by_cases h16 : m ≤ 16
                · have e : m = 16 := by omega
                  subst e
                  exact am_q16 h
                · have e : m = 17 := by omega
                  subst e
                  exact am_q17 h
              · have e : m = 18 := by omega
                subst e
                exact am_q18 h
          · by_cases h21 : m ≤ 21
            · by_cases h20 : m ≤ 20
              · by_cases h19 : m ≤ 19
                · have e : m = 19 := by omega
                  subst e
                  exact am_q19 h
                · have e : m = 20 := by omega
                  subst e
                  exact am_q20 h
              · have e : m = 21 := by omega
                subst e
                exact am_q21 h
            · by_cases h23 : m ≤ 23
              · by_cases h22 : m ≤ 22
                · have e : m = 22 := by omega
                  subst e
                  exact am_q22 h
                · have e : m = 23 := by omega
                  subst e
                  exact am_q23 h
              · have e : m = 24 := by omega
                subst e
                exact am_q24 h
      · by_cases h36 : m ≤ 36
        · by_cases h30 : m ≤ 30
          · by_cases h27 : m ≤ 27
            · by_cases h26 : m ≤ 26
              · by_cases h25 : m ≤ 25
                · have e : m = 25 := by omega
                  subst e
                  exact am_q25 h
                · have e : m = 26 := by omega
                  subst e
                  exact am_q26 h
              · have e : m = 27 := by omega
                subst e
                exact am_q27 h
            · by_cases h29 : m ≤ 29
              · by_cases h28 : m ≤ 28
                · have e : m = 28 := by omega
                  subst e
                  exact am_q28 h
                · have e : m = 29 := by omega
                  subst e
                  exact am_q29 h
              · have e : m = 30 := by omega
                subst e
                exact am_q30 h
          · by_cases h33 : m ≤ 33
            · by_cases h32 : m ≤ 32
              · by_cases h31 : m ≤ 31
                · have e : m = 31 := by omega
                  subst e
                  exact am_q31 h
                · have e : m = 32 := by omega
                  subst e
                  exact am_q32 h
              · have e : m = 33 := by omega
                subst e
                exact am_q33 h
            · by_cases h35 : m ≤ 35
              · by_cases h34 : m ≤ 34
                · have e : m = 34 := by omega
                  subst e
                  exact am_q34 h
                · have e : m = 35 := by omega
                  subst e
                  exact am_q35 h
              · have e : m = 36 := by omega
                subst e
                exact am_q36 h
        · by_cases h42 : m ≤ 42
          · by_cases h39 : m ≤ 39
            · by_cases h38 : m ≤ 38
              · by_cases h37 : m ≤ 37
                · have e : m = 37 := by omega
                  subst e
                  exact am_q37 h
                · have e : m = 38 := by omega
                  subst e
                  exact am_q38 h
              · have e : m = 39 := by omega
                subst e
                exact am_q39 h
            · by_cases h41 : m ≤ 41
              · by_cases h40 : m ≤ 40
                · have e : m = 40 := by omega
                  subst e
                  exact am_q40 h
                · have e : m = 41 := by omega
                  subst e
                  exact am_q41 h
              · have e : m = 42 := by omega
                subst e
                exact am_q42 h
          · by_cases h45 : m ≤ 45
            · by_cases h44 : m ≤ 44
              · by_cases h43 : m ≤ 43
                · have e : m = 43 := by omega
                  subst e
                  exact am_q43 h
                · have e : m = 44 := by omega
                  subst e
                  exact am_q44 h
              · have e : m = 45 := by omega
                subst e
                exact am_q45 h
            · by_cases h47 : m ≤ 47
              · by_cases h46 : m ≤ 46
                · have e : m = 46 := by omega
                  subst e
                  exact am_q46 h
                · have e : m = 47 := by omega
                  subst e
                  exact am_q47 h
              · have e : m = 48 := by omega
                subst e
                exact am_q48 h
    · by_cases h73 : m ≤ 73
      · by_cases h61 : m ≤ 61
        · by_cases h55 : m ≤ 55
          · by_cases h52 : m ≤ 52
            · by_cases h50 : m ≤ 50
              · by_cases h49 : m ≤ 49
                · have e : m = 49 := by omega
                  subst e
                  exact am_q49 h
                · have e : m = 50 := by omega
                  subst e
                  exact am_q50 h
              · by_cases h51 : m ≤ 51
                · have e : m = 51 := by omega
                  subst e
                  exact am_q51 h
                · have e : m = 52 := by omega
                  subst e
                  exact am_q52 h
            · by_cases h54 : m ≤ 54
              · by_cases h53 : m ≤ 53
                · have e : m = 53 := by omega
                  subst e
                  exact am_q53 h
                · have e : m = 54 := by omega
                  subst e
                  exact am_q54 h
              · have e : m = 55 := by omega
                subst e
                exact am_q55 h
          · by_cases h58 : m ≤ 58
            · by_cases h57 : m ≤ 57
              · by_cases h56 : m ≤ 56
                · have e : m = 56 := by omega
                  subst e
                  exact am_q56 h
                · have e : m = 57 := by omega
                  subst e
                  exact am_q57 h
              · have e : m = 58 := by omega
                subst e
                exact am_q58 h
            · by_cases h60 : m ≤ 60
              · by_cases h59 : m ≤ 59
                · have e : m = 59 := by omega
                  subst e
                  exact am_q59 h
                · have e : m = 60 := by omega
                  subst e
                  exact am_q60 h
              · have e : m = 61 := by omega
                subst e
                exact am_q61 h
        · by_cases h67 : m ≤ 67
          · by_cases h64 : m ≤ 64
            · by_cases h63 : m ≤ 63
              · by_cases h62 : m ≤ 62
                · have e : m = 62 := by omega
                  subst e
                  exact am_q62 h
                · have e : m = 63 := by omega
                  subst e
                  exact am_q63 h
              · have e : m = 64 := by omega
                subst e
                exact am_q64 h
            · by_cases h66 : m ≤ 66
              · by_cases h65 : m ≤ 65
                · have e : m = 65 := by omega
                  subst e
                  exact am_q65 h
                · have e : m = 66 := by omega
                  subst e
                  exact am_q66 h
              · have e : m = 67 := by omega
                subst e
                exact am_q67 h
          · by_cases h70 : m ≤ 70
            · by_cases h69 : m ≤ 69
              · by_cases h68 : m ≤ 68
                · have e : m = 68 := by omega
                  subst e
                  exact am_q68 h
                · have e : m = 69 := by omega
                  subst e
                  exact am_q69 h
              · have e : m = 70 := by omega
                subst e
                exact am_q70 h
            · by_cases h72 : m ≤ 72
              · by_cases h71 : m ≤ 71
                · have e : m = 71 := by omega
                  subst e
                  exact am_q71 h
                · have e : m = 72 := by omega
                  subst e
                  exact am_q72 h
              · have e : m = 73 := by omega
                subst e
                exact am_q73 h
      · by_cases h85 : m ≤ 85
        · by_cases h79 : m ≤ 79
          · by_cases h76 : m ≤ 76
            · by_cases h75 : m ≤ 75
              · by_cases h74 : m ≤ 74
                · have e : m = 74 := by omega
                  subst e
                  exact am_q74 h
                · have e : m = 75 := by omega
                  subst e
                  exact am_q75 h
              · have e : m = 76 := by omega
                subst e
                exact am_q76 h
            · by_cases h78 : m ≤ 78
              · by_cases h77 : m ≤ 77
                · have e : m = 77 := by omega
                  subst e
                  exact am_q77 h
                · have e : m = 78 := by omega
                  subst e
                  exact am_q78 h
              · have e : m = 79 := by omega
                subst e
                exact am_q79 h
          · by_cases h82 : m ≤ 82
            · by_cases h81 : m ≤ 81
              · by_cases h80 : m ≤ 80
                · have e : m = 80 := by omega
                  subst e
                  exact am_q80 h
                · have e : m = 81 := by omega
                  subst e
                  exact am_q81 h
              · have e : m = 82 := by omega
                subst e
                exact am_q82 h
            · by_cases h84 : m ≤ 84
              · by_cases h83 : m ≤ 83
                · have e : m = 83 := by omega
                  subst e
                  exact am_q83 h
                · have e : m = 84 := by omega
                  subst e
                  exact am_q84 h
              · have e : m = 85 := by omega
                subst e
                exact am_q85 h
        · by_cases h91 : m ≤ 91
          · by_cases h88 : m ≤ 88
            · by_cases h87 : m ≤ 87
              · by_cases h86 : m ≤ 86
                · have e : m = 86 := by omega
                  subst e
                  exact am_q86 h
                · have e : m = 87 := by omega
                  subst e
                  exact am_q87 h
              · have e : m = 88 := by omega
                subst e
                exact am_q88 h
            · by_cases h90 : m ≤ 90
              · by_cases h89 : m ≤ 89
                · have e : m = 89 := by omega
                  subst e
                  exact am_q89 h
                · have e : m = 90 := by omega
                  subst e
                  exact am_q90 h
              · have e : m = 91 := by omega
                subst e
                exact am_q91 h
          · by_cases h94 : m ≤ 94
            · by_cases h93 : m ≤ 93
              · by_cases h92 : m ≤ 92
                · have e : m = 92 := by omega
                  subst e
                  exact am_q92 h
                · have e : m = 93 := by omega
                  subst e
                  exact am_q93 h
              · have e : m = 94 := by omega
                subst e
                exact am_q94 h
            · by_cases h96 : m ≤ 96
              · by_cases h95 : m ≤ 95
                · have e : m = 95 := by omega
                  subst e
                  exact am_q95 h
                · have e : m = 96 := by omega
                  subst e
                  exact am_q96 h
              · have e : m = 97 := by omega
                subst e
                exact am_q97 h
  · by_cases h146 : m ≤ 146
    · by_cases h122 : m ≤ 122
      · by_cases h110 : m ≤ 110
        · by_cases h104 : m ≤ 104
          · by_cases h101 : m ≤ 101
            · by_cases h99 : m ≤ 99
              · by_cases h98 : m ≤ 98
                · have e : m = 98 := by omega
                  subst e
                  exact am_q98 h
                · have e : m = 99 := by omega
                  subst e
                  exact am_q99 h
              · by_cases h100 : m ≤ 100
                · have e : m = 100 := by omega
                  subst e
                  exact am_q100 h
                · have e : m = 101 := by omega
                  subst e
                  exact am_q101 h
            · by_cases h103 : m ≤ 103
              · by_cases h102 : m ≤ 102
                · have e : m = 102 := by omega
                  subst e
                  exact am_q102 h
                · have e : m = 103 := by omega
                  subst e
                  exact am_q103 h
              · have e : m = 104 := by omega
                subst e
                exact am_q104 h
          · by_cases h107 : m ≤ 107
            · by_cases h106 : m ≤ 106
              · by_cases h105 : m ≤ 105
                · have e : m = 105 := by omega
                  subst e
                  exact am_q105 h
                · have e : m = 106 := by omega
                  subst e
                  exact am_q106 h
              · have e : m = 107 := by omega
                subst e
                exact am_q107 h
            · by_cases h109 : m ≤ 109
              · by_cases h108 : m ≤ 108
                · have e : m = 108 := by omega
                  subst e
                  exact am_q108 h
                · have e : m = 109 := by omega
                  subst e
                  exact am_q109 h
              · have e : m = 110 := by omega
                subst e
                exact am_q110 h
        · by_cases h116 : m ≤ 116
          · by_cases h113 : m ≤ 113
            · by_cases h112 : m ≤ 112
              · by_cases h111 : m ≤ 111
                · have e : m = 111 := by omega
                  subst e
                  exact am_q111 h
                · have e : m = 112 := by omega
                  subst e
                  exact am_q112 h
              · have e : m = 113 := by omega
                subst e
                exact am_q113 h
            · by_cases h115 : m ≤ 115
              · by_cases h114 : m ≤ 114
                · have e : m = 114 := by omega
                  subst e
                  exact am_q114 h
                · have e : m = 115 := by omega
                  subst e
                  exact am_q115 h
              · have e : m = 116 := by omega
                subst e
                exact am_q116 h
          · by_cases h119 : m ≤ 119
            · by_cases h118 : m ≤ 118
              · by_cases h117 : m ≤ 117
                · have e : m = 117 := by omega
                  subst e
                  exact am_q117 h
                · have e : m = 118 := by omega
                  subst e
                  exact am_q118 h
              · have e : m = 119 := by omega
                subst e
                exact am_q119 h
            · by_cases h121 : m ≤ 121
              · by_cases h120 : m ≤ 120
                · have e : m = 120 := by omega
                  subst e
                  exact am_q120 h
                · have e : m = 121 := by omega
                  subst e
                  exact am_q121 h
              · have e : m = 122 := by omega
                subst e
                exact am_q122 h
      · by_cases h134 : m ≤ 134
        · by_cases h128 : m ≤ 128
          · by_cases h125 : m ≤ 125
            · by_cases h124 : m ≤ 124
              · by_cases h123 : m ≤ 123
                · have e : m = 123 := by omega
                  subst e
                  exact am_q123 h
                · have e : m = 124 := by omega
                  subst e
                  exact am_q124 h
              · have e : m = 125 := by omega
                subst e
                exact am_q125 h
            · by_cases h127 : m ≤ 127
              · by_cases h126 : m ≤ 126
                · have e : m = 126 := by omega
                  subst e
                  exact am_q126 h
                · have e : m = 127 := by omega
                  subst e
                  exact am_q127 h
              · have e : m = 128 := by omega
                subst e
                exact am_q128 h
          · by_cases h131 : m ≤ 131
            · by_cases h130 : m ≤ 130
              · by_cases h129 : m ≤ 129
                · have e : m = 129 := by omega
                  subst e
                  exact am_q129 h
                · have e : m = 130 := by omega
                  subst e
                  exact am_q130 h
              · have e : m = 131 := by omega
                subst e
                exact am_q131 h
            · by_cases h133 : m ≤ 133
              · by_cases h132 : m ≤ 132
                · have e : m = 132 := by omega
                  subst e
                  exact am_q132 h
                · have e : m = 133 := by omega
                  subst e
                  exact am_q133 h
              · have e : m = 134 := by omega
                subst e
                exact am_q134 h
        · by_cases h140 : m ≤ 140
          · by_cases h137 : m ≤ 137
            · by_cases h136 : m ≤ 136
              · by_cases h135 : m ≤ 135
                · have e : m = 135 := by omega
                  subst e
                  exact am_q135 h
                · have e : m = 136 := by omega
                  subst e
                  exact am_q136 h
              · have e : m = 137 := by omega
                subst e
                exact am_q137 h
            · by_cases h139 : m ≤ 139
              · by_cases h138 : m ≤ 138
                · have e : m = 138 := by omega
                  subst e
                  exact am_q138 h
                · have e : m = 139 := by omega
                  subst e
                  exact am_q139 h
              · have e : m = 140 := by omega
                subst e
                exact am_q140 h
          · by_cases h143 : m ≤ 143
            · by_cases h142 : m ≤ 142
              · by_cases h141 : m ≤ 141
                · have e : m = 141 := by omega
                  subst e
                  exact am_q141 h
                · have e : m = 142 := by omega
                  subst e
                  exact am_q142 h
              · have e : m = 143 := by omega
                subst e
                exact am_q143 h
            · by_cases h145 : m ≤ 145
              · by_cases h144 : m ≤ 144
                · have e : m = 144 := by omega
                  subst e
                  exact am_q144 h
                · have e : m = 145 := by omega
                  subst e
                  exact am_q145 h
              · have e : m = 146 := by omega
                subst e
                exact am_q146 h
    · by_cases h170 : m ≤ 170
      · by_cases h158 : m ≤ 158
        · by_cases h152 : m ≤ 152
          · by_cases h149 : m ≤ 149
            · by_cases h148 : m ≤ 148
              · by_cases h147 : m ≤ 147
                · have e : m = 147 := by omega
                  subst e
                  exact am_q147 h
                · have e : m = 148 := by omega
                  subst e
                  exact am_q148 h
              · have e : m = 149 := by omega
                subst e
                exact am_q149 h
            · by_cases h151 : m ≤ 151
              · by_cases h150 : m ≤ 150
                · have e : m = 150 := by omega
                  subst e
                  exact am_q150 h
                · have e : m = 151 := by omega
                  subst e
                  exact am_q151 h
              · have e : m = 152 := by omega
                subst e
                exact am_q152 h
          · by_cases h155 : m ≤ 155
            · by_cases h154 : m ≤ 154
              · by_cases h153 : m ≤ 153
                · have e : m = 153 := by omega
                  subst e
                  exact am_q153 h
                · have e : m = 154 := by omega
                  subst e
                  exact am_q154 h
              · have e : m = 155 := by omega
                subst e
                exact am_q155 h
            · by_cases h157 : m ≤ 157
              · by_cases h156 : m ≤ 156
                · have e : m = 156 := by omega
                  subst e
                  exact am_q156 h
                · have e : m = 157 := by omega
                  subst e
                  exact am_q157 h
              · have e : m = 158 := by omega
                subst e
                exact am_q158 h
        · by_cases h164 : m ≤ 164
          · by_cases h161 : m ≤ 161
            · by_cases h160 : m ≤ 160
              · by_cases h159 : m ≤ 159
                · have e : m = 159 := by omega
                  subst e
                  exact am_q159 h
                · have e : m = 160 := by omega
                  subst e
                  exact am_q160 h
              · have e : m = 161 := by omega
                subst e
                exact am_q161 h
            · by_cases h163 : m ≤ 163
              · by_cases h162 : m ≤ 162
                · have e : m = 162 := by omega
                  subst e
                  exact am_q162 h
                · have e : m = 163 := by omega
                  subst e
                  exact am_q163 h
              · have e : m = 164 := by omega
                subst e
                exact am_q164 h
          · by_cases h167 : m ≤ 167
            · by_cases h166 : m ≤ 166
              · by_cases h165 : m ≤ 165
                · have e : m = 165 := by omega
                  subst e
                  exact am_q165 h
                · have e : m = 166 := by omega
                  subst e
                  exact am_q166 h
              · have e : m = 167 := by omega
                subst e
                exact am_q167 h
            · by_cases h169 : m ≤ 169
              · by_cases h168 : m ≤ 168
                · have e : m = 168 := by omega
                  subst e
                  exact am_q168 h
                · have e : m = 169 := by omega
                  subst e
                  exact am_q169 h
              · have e : m = 170 := by omega
                subst e
                exact am_q170 h
      · by_cases h182 : m ≤ 182
        · by_cases h176 : m ≤ 176
          · by_cases h173 : m ≤ 173
            · by_cases h172 : m ≤ 172
              · by_cases h171 : m ≤ 171
                · have e : m = 171 := by omega
                  subst e
                  exact am_q171 h
                · have e : m = 172 := by omega
                  subst e
                  exact am_q172 h
              · have e : m = 173 := by omega
                subst e
                exact am_q173 h
            · by_cases h175 : m ≤ 175
              · by_cases h174 : m ≤ 174
                · have e : m = 174 := by omega
                  subst e
                  exact am_q174 h
                · have e : m = 175 := by omega
                  subst e
                  exact am_q175 h
              · have e : m = 176 := by omega
                subst e
                exact am_q176 h
          · by_cases h179 : m ≤ 179
            · by_cases h178 : m ≤ 178
              · by_cases h177 : m ≤ 177
                · have e : m = 177 := by omega
                  subst e
                  exact am_q177 h
                · have e : m = 178 := by omega
                  subst e
                  exact am_q178 h
              · have e : m = 179 := by omega
                subst e
                exact am_q179 h
            · by_cases h181 : m ≤ 181
              · by_cases h180 : m ≤ 180
                · have e : m = 180 := by omega
                  subst e
                  exact am_q180 h
                · have e : m = 181 := by omega
                  subst e
                  exact am_q181 h
              · have e : m = 182 := by omega
                subst e
                exact am_q182 h
        · by_cases h188 : m ≤ 188
          · by_cases h185 : m ≤ 185
            · by_cases h184 : m ≤ 184
              · by_cases h183 : m ≤ 183
                · have e : m = 183 := by omega
                  subst e
                  exact am_q183 h
                · have e : m = 184 := by omega
                  subst e
                  exact am_q184 h
              · have e : m = 185 := by omega
                subst e
                exact am_q185 h
            · by_cases h187 : m ≤ 187
              · by_cases h186 : m ≤ 186
                · have e : m = 186 := by omega
                  subst e
                  exact am_q186 h
                · have e : m = 187 := by omega
                  subst e
                  exact am_q187 h
              · have e : m = 188 := by omega
                subst e
                exact am_q188 h
          · by_cases h191 : m ≤ 191
            · by_cases h190 : m ≤ 190
              · by_cases h189 : m ≤ 189
                · have e : m = 189 := by omega
                  subst e
                  exact am_q189 h
                · have e : m = 190 := by omega
                  subst e
                  exact am_q190 h
              · have e : m = 191 := by omega
                subst e
                exact am_q191 h
            · by_cases h193 : m ≤ 193
              · by_cases h192 : m ≤ 192
                · have e : m = 192 := by omega
                  subst e
                  exact am_q192 h
                · have e : m = 193 := by omega
                  subst e
                  exact am_q193 h
              · have e : m = 194 := by omega
                subst e
                exact am_q194 h
