/-! THE ABSTRACT MACHINE: the bytecode read over whole numbers, a heap by kinds of cells. Kinds 0 to 8 are the classes; 9 the entries of readings, 10 the signs of rows, 11 items of sheets, 12 the text's bytes, 13 cells of values, 14 rules, 15 laid, 16 sheets; 17 on the reference's arrays; 34 the script (its length at 35). Written by wip/gen/gen03.py -/
abbrev vI (x : Int) : AV := .inl x
abbrev vL (x : Int) : AV := .inr (.inl x)
abbrev vR (k : Nat) (i : Int) : AV := .inr (.inr (.inl (k, i)))
abbrev vN : AV := .inr (.inr (.inr ()))
abbrev NA : Nat := 108
def am_cnt (k : Nat) : Int := cond (Nat.ble k 16) (cond (Nat.ble k 7) (cond (Nat.ble k 3) (cond (Nat.ble k 1) (cond (Nat.ble k 0) (10) (17)) (cond (Nat.ble k 2) (8) (4))) (cond (Nat.ble k 5) (cond (Nat.ble k 4) (8) (1)) (cond (Nat.ble k 6) (2) (1)))) (cond (Nat.ble k 11) (cond (Nat.ble k 9) (cond (Nat.ble k 8) (1) (10)) (cond (Nat.ble k 10) (17) (4))) (cond (Nat.ble k 13) (cond (Nat.ble k 12) (1) (4)) (cond (Nat.ble k 14) (1) (cond (Nat.ble k 15) (1) (1)))))) (cond (Nat.ble k 24) (cond (Nat.ble k 20) (cond (Nat.ble k 18) (cond (Nat.ble k 17) (1) (1)) (cond (Nat.ble k 19) (1) (1))) (cond (Nat.ble k 22) (cond (Nat.ble k 21) (1) (1)) (cond (Nat.ble k 23) (1) (1)))) (cond (Nat.ble k 28) (cond (Nat.ble k 26) (cond (Nat.ble k 25) (1) (1)) (cond (Nat.ble k 27) (1) (1))) (cond (Nat.ble k 30) (cond (Nat.ble k 29) (1) (1)) (cond (Nat.ble k 31) (1) (cond (Nat.ble k 32) (1) (1))))))
def am_off (k : Nat) (i : Int) : Nat := cond (Nat.ble k 16) (cond (Nat.ble k 7) (cond (Nat.ble k 3) (cond (Nat.ble k 1) (cond (Nat.ble k 0) ((if i = 0 then 8 else if i = 1 then 10 else 8 * i + 8 : Int).toNat) ((if i = 0 then 3 else 19 + 8 * ((i - 1) / 2) + 2 * ((i - 1) % 2) : Int).toNat)) (cond (Nat.ble k 2) ((18 + 8 * i).toNat) ((82 + 2 * i).toNat))) (cond (Nat.ble k 5) (cond (Nat.ble k 4) ((23 + 8 * i).toNat) (1)) (cond (Nat.ble k 6) ((12 + 3 * i).toNat) (0)))) (cond (Nat.ble k 11) (cond (Nat.ble k 9) (cond (Nat.ble k 8) (90) ((if i = 0 then 9 else if i = 1 then 11 else 8 * i + 9 : Int).toNat)) (cond (Nat.ble k 10) ((if i = 0 then 4 else 20 + 8 * ((i - 1) / 2) + 2 * ((i - 1) % 2) : Int).toNat) ((83 + 2 * i).toNat))) (cond (Nat.ble k 13) (cond (Nat.ble k 12) (2) ((if i ≤ 1 then 13 + i else 14 + i : Int).toNat)) (cond (Nat.ble k 14) (5) (cond (Nat.ble k 15) (6) (7)))))) (cond (Nat.ble k 24) (cond (Nat.ble k 20) (cond (Nat.ble k 18) (cond (Nat.ble k 17) (91) (92)) (cond (Nat.ble k 19) (93) (94))) (cond (Nat.ble k 22) (cond (Nat.ble k 21) (95) (96)) (cond (Nat.ble k 23) (97) (98)))) (cond (Nat.ble k 28) (cond (Nat.ble k 26) (cond (Nat.ble k 25) (99) (100)) (cond (Nat.ble k 27) (101) (102))) (cond (Nat.ble k 30) (cond (Nat.ble k 29) (103) (104)) (cond (Nat.ble k 31) (105) (cond (Nat.ble k 32) (106) (107))))))
def am_lay (o : Nat) : Nat × Int := cond (Nat.ble o 53) (cond (Nat.ble o 26) (cond (Nat.ble o 12) (cond (Nat.ble o 5) (cond (Nat.ble o 2) (cond (Nat.ble o 0) ((7, 0)) (cond (Nat.ble o 1) ((5, 0)) ((12, 0)))) (cond (Nat.ble o 3) ((1, 0)) (cond (Nat.ble o 4) ((10, 0)) ((14, 0))))) (cond (Nat.ble o 8) (cond (Nat.ble o 6) ((15, 0)) (cond (Nat.ble o 7) ((16, 0)) ((0, 0)))) (cond (Nat.ble o 10) (cond (Nat.ble o 9) ((9, 0)) ((0, 1))) (cond (Nat.ble o 11) ((9, 1)) ((6, 0)))))) (cond (Nat.ble o 19) (cond (Nat.ble o 15) (cond (Nat.ble o 13) ((13, 0)) (cond (Nat.ble o 14) ((13, 1)) ((6, 1)))) (cond (Nat.ble o 17) (cond (Nat.ble o 16) ((13, 2)) ((13, 3))) (cond (Nat.ble o 18) ((2, 0)) ((1, 1))))) (cond (Nat.ble o 22) (cond (Nat.ble o 20) ((10, 1)) (cond (Nat.ble o 21) ((1, 2)) ((10, 2)))) (cond (Nat.ble o 24) (cond (Nat.ble o 23) ((4, 0)) ((0, 2))) (cond (Nat.ble o 25) ((9, 2)) ((2, 1))))))) (cond (Nat.ble o 39) (cond (Nat.ble o 32) (cond (Nat.ble o 29) (cond (Nat.ble o 27) ((1, 3)) (cond (Nat.ble o 28) ((10, 3)) ((1, 4)))) (cond (Nat.ble o 30) ((10, 4)) (cond (Nat.ble o 31) ((4, 1)) ((0, 3))))) (cond (Nat.ble o 35) (cond (Nat.ble o 33) ((9, 3)) (cond (Nat.ble o 34) ((2, 2)) ((1, 5)))) (cond (Nat.ble o 37) (cond (Nat.ble o 36) ((10, 5)) ((1, 6))) (cond (Nat.ble o 38) ((10, 6)) ((4, 2)))))) (cond (Nat.ble o 46) (cond (Nat.ble o 42) (cond (Nat.ble o 40) ((0, 4)) (cond (Nat.ble o 41) ((9, 4)) ((2, 3)))) (cond (Nat.ble o 44) (cond (Nat.ble o 43) ((1, 7)) ((10, 7))) (cond (Nat.ble o 45) ((1, 8)) ((10, 8))))) (cond (Nat.ble o 49) (cond (Nat.ble o 47) ((4, 3)) (cond (Nat.ble o 48) ((0, 5)) ((9, 5)))) (cond (Nat.ble o 51) (cond (Nat.ble o 50) ((2, 4)) ((1, 9))) (cond (Nat.ble o 52) ((10, 9)) ((1, 10)))))))) (cond (Nat.ble o 80) (cond (Nat.ble o 66) (cond (Nat.ble o 59) (cond (Nat.ble o 56) (cond (Nat.ble o 54) ((10, 10)) (cond (Nat.ble o 55) ((4, 4)) ((0, 6)))) (cond (Nat.ble o 57) ((9, 6)) (cond (Nat.ble o 58) ((2, 5)) ((1, 11))))) (cond (Nat.ble o 62) (cond (Nat.ble o 60) ((10, 11)) (cond (Nat.ble o 61) ((1, 12)) ((10, 12)))) (cond (Nat.ble o 64) (cond (Nat.ble o 63) ((4, 5)) ((0, 7))) (cond (Nat.ble o 65) ((9, 7)) ((2, 6)))))) (cond (Nat.ble o 73) (cond (Nat.ble o 69) (cond (Nat.ble o 67) ((1, 13)) (cond (Nat.ble o 68) ((10, 13)) ((1, 14)))) (cond (Nat.ble o 71) (cond (Nat.ble o 70) ((10, 14)) ((4, 6))) (cond (Nat.ble o 72) ((0, 8)) ((9, 8))))) (cond (Nat.ble o 76) (cond (Nat.ble o 74) ((2, 7)) (cond (Nat.ble o 75) ((1, 15)) ((10, 15)))) (cond (Nat.ble o 78) (cond (Nat.ble o 77) ((1, 16)) ((10, 16))) (cond (Nat.ble o 79) ((4, 7)) ((0, 9))))))) (cond (Nat.ble o 93) (cond (Nat.ble o 86) (cond (Nat.ble o 83) (cond (Nat.ble o 81) ((9, 9)) (cond (Nat.ble o 82) ((3, 0)) ((11, 0)))) (cond (Nat.ble o 84) ((3, 1)) (cond (Nat.ble o 85) ((11, 1)) ((3, 2))))) (cond (Nat.ble o 89) (cond (Nat.ble o 87) ((11, 2)) (cond (Nat.ble o 88) ((3, 3)) ((11, 3)))) (cond (Nat.ble o 91) (cond (Nat.ble o 90) ((8, 0)) ((17, 0))) (cond (Nat.ble o 92) ((18, 0)) ((19, 0)))))) (cond (Nat.ble o 100) (cond (Nat.ble o 96) (cond (Nat.ble o 94) ((20, 0)) (cond (Nat.ble o 95) ((21, 0)) ((22, 0)))) (cond (Nat.ble o 98) (cond (Nat.ble o 97) ((23, 0)) ((24, 0))) (cond (Nat.ble o 99) ((25, 0)) ((26, 0))))) (cond (Nat.ble o 103) (cond (Nat.ble o 101) ((27, 0)) (cond (Nat.ble o 102) ((28, 0)) ((29, 0)))) (cond (Nat.ble o 105) (cond (Nat.ble o 104) ((30, 0)) ((31, 0))) (cond (Nat.ble o 106) ((32, 0)) ((33, 0))))))))
def am_fts (k : Nat) : List Nat := cond (Nat.ble k 3) (cond (Nat.ble k 1) (cond (Nat.ble k 0) ([0, 0, 2]) ([2, 0])) (cond (Nat.ble k 2) ([2, 2, 1, 0]) ([0, 0, 2]))) (cond (Nat.ble k 5) (cond (Nat.ble k 4) ([2, 0]) ([2, 0])) (cond (Nat.ble k 6) ([1, 2, 2]) (cond (Nat.ble k 7) ([2, 2, 2, 2, 2, 2, 2, 2, 2, 0, 0, 0, 0, 0]) ([2, 2, 2, 2, 0, 0, 2, 0, 0, 2, 2, 2, 0, 2, 0, 0, 2, 2, 2, 0, 2, 2, 2, 2, 2]))))
/-- a field's type: 0 int, 1 boolean, 2 a reference -/
def am_ft (k : Nat) (s : Int) : Nat := (am_fts k).getD s.toNat 0
def am_nf (k : Nat) : Nat := cond (Nat.ble k 3) (cond (Nat.ble k 1) (cond (Nat.ble k 0) (3) (2)) (cond (Nat.ble k 2) (4) (3))) (cond (Nat.ble k 5) (cond (Nat.ble k 4) (2) (2)) (cond (Nat.ble k 6) (3) (cond (Nat.ble k 7) (14) (25))))
def am_tks (k : Nat) : List Nat := cond (Nat.ble k 7) (cond (Nat.ble k 3) (cond (Nat.ble k 1) (cond (Nat.ble k 0) ([99, 99, 9]) ([10, 99])) (cond (Nat.ble k 2) ([1, 1, 99, 99]) ([99, 99, 11]))) (cond (Nat.ble k 5) (cond (Nat.ble k 4) ([0, 99]) ([12, 99])) (cond (Nat.ble k 6) ([99, 13, 13]) ([5, 1, 14, 15, 16, 0, 0, 6, 6, 99, 99, 99, 99, 99])))) (cond (Nat.ble k 11) (cond (Nat.ble k 9) (cond (Nat.ble k 8) ([17, 18, 19, 20, 99, 99, 21, 99, 99, 22, 23, 24, 99, 25, 99, 99, 26, 27, 28, 99, 29, 30, 31, 32, 33]) ([])) (cond (Nat.ble k 10) ([]) ([]))) (cond (Nat.ble k 13) (cond (Nat.ble k 12) ([]) ([])) (cond (Nat.ble k 14) ([2]) (cond (Nat.ble k 15) ([4]) ([3])))))
/-- the kind of cell that a reference leads to -/
def am_tk (k : Nat) (s : Int) : Nat := (am_tks k).getD (if am_tks k = [] then 0 else if k < 9 then s.toNat else 0) 99
/-- 0 an object, 1 ints, 2 longs, 3 references -/
def am_ak (k : Nat) : Nat := cond (Nat.ble k 16) (cond (Nat.ble k 7) (cond (Nat.ble k 3) (cond (Nat.ble k 1) (cond (Nat.ble k 0) (0) (0)) (cond (Nat.ble k 2) (0) (0))) (cond (Nat.ble k 5) (cond (Nat.ble k 4) (0) (0)) (cond (Nat.ble k 6) (0) (0)))) (cond (Nat.ble k 11) (cond (Nat.ble k 9) (cond (Nat.ble k 8) (0) (1)) (cond (Nat.ble k 10) (1) (1))) (cond (Nat.ble k 13) (cond (Nat.ble k 12) (1) (1)) (cond (Nat.ble k 14) (3) (cond (Nat.ble k 15) (3) (3)))))) (cond (Nat.ble k 25) (cond (Nat.ble k 20) (cond (Nat.ble k 18) (cond (Nat.ble k 17) (1) (1)) (cond (Nat.ble k 19) (1) (1))) (cond (Nat.ble k 22) (cond (Nat.ble k 21) (1) (1)) (cond (Nat.ble k 23) (1) (cond (Nat.ble k 24) (1) (1))))) (cond (Nat.ble k 29) (cond (Nat.ble k 27) (cond (Nat.ble k 26) (1) (1)) (cond (Nat.ble k 28) (1) (1))) (cond (Nat.ble k 31) (cond (Nat.ble k 30) (2) (2)) (cond (Nat.ble k 32) (2) (cond (Nat.ble k 33) (1) (1))))))
def am_acy (k : Nat) : Nat := cond (Nat.ble k 16) (cond (Nat.ble k 7) (cond (Nat.ble k 3) (cond (Nat.ble k 1) (cond (Nat.ble k 0) (0) (0)) (cond (Nat.ble k 2) (0) (0))) (cond (Nat.ble k 5) (cond (Nat.ble k 4) (0) (0)) (cond (Nat.ble k 6) (0) (0)))) (cond (Nat.ble k 11) (cond (Nat.ble k 9) (cond (Nat.ble k 8) (0) (0)) (cond (Nat.ble k 10) (0) (0))) (cond (Nat.ble k 13) (cond (Nat.ble k 12) (0) (0)) (cond (Nat.ble k 14) (2) (cond (Nat.ble k 15) (3) (4)))))) (cond (Nat.ble k 25) (cond (Nat.ble k 20) (cond (Nat.ble k 18) (cond (Nat.ble k 17) (0) (0)) (cond (Nat.ble k 19) (0) (0))) (cond (Nat.ble k 22) (cond (Nat.ble k 21) (0) (0)) (cond (Nat.ble k 23) (0) (cond (Nat.ble k 24) (0) (0))))) (cond (Nat.ble k 29) (cond (Nat.ble k 27) (cond (Nat.ble k 26) (0) (0)) (cond (Nat.ble k 28) (0) (0))) (cond (Nat.ble k 31) (cond (Nat.ble k 30) (1) (1)) (cond (Nat.ble k 32) (1) (cond (Nat.ble k 33) (0) (0))))))
def am_al (k : Nat) (i : Int) : Int := cond (Nat.ble k 16) (cond (Nat.ble k 7) (cond (Nat.ble k 3) (cond (Nat.ble k 1) (cond (Nat.ble k 0) (0) (0)) (cond (Nat.ble k 2) (0) (0))) (cond (Nat.ble k 5) (cond (Nat.ble k 4) (0) (0)) (cond (Nat.ble k 6) (0) (0)))) (cond (Nat.ble k 11) (cond (Nat.ble k 9) (cond (Nat.ble k 8) (0) (36)) (cond (Nat.ble k 10) (if i = 0 then 24 else 6) (60))) (cond (Nat.ble k 13) (cond (Nat.ble k 12) (20) (9)) (cond (Nat.ble k 14) (8) (cond (Nat.ble k 15) (8) (4)))))) (cond (Nat.ble k 24) (cond (Nat.ble k 20) (cond (Nat.ble k 18) (cond (Nat.ble k 17) (4) (4)) (cond (Nat.ble k 19) (240) (60))) (cond (Nat.ble k 22) (cond (Nat.ble k 21) (20) (96)) (cond (Nat.ble k 23) (16) (8)))) (cond (Nat.ble k 28) (cond (Nat.ble k 26) (cond (Nat.ble k 25) (24) (324)) (cond (Nat.ble k 27) (9) (9))) (cond (Nat.ble k 30) (cond (Nat.ble k 29) (8) (9)) (cond (Nat.ble k 31) (9) (cond (Nat.ble k 32) (9) (36))))))
/-- an array's length; the script's stands in the heap -/
def am_len (g : GI) (k : Nat) (i : Int) : Int := if k = 34 then g 35 0 0 else am_al k i
abbrev inI (x : Int) : Prop := -2147483648 ≤ x ∧ x ≤ 2147483647
abbrev inL (x : Int) : Prop := -9223372036854775808 ≤ x ∧ x ≤ 9223372036854775807
def gset (g : GI) (k : Nat) (i s v : Int) : GI := fun k' i' s' => if k' = k ∧ i' = i ∧ s' = s then v else g k' i' s'
def gfil (g : GI) (k : Nat) (i v : Int) : GI := fun k' i' s' => if k' = k ∧ i' = i then v else g k' i' s'
def gcpy (g : GI) (k1 : Nat) (i1 p1 : Int) (k2 : Nat) (i2 p2 n : Int) : GI := fun k' i' s' => if k' = k2 ∧ i' = i2 ∧ p2 ≤ s' ∧ s' < p2 + n then g k1 i1 (p1 + (s' - p2)) else g k' i' s'
def am_wi (x : Int) : Int := (Int32.ofInt x).toInt
def am_wl (x : Int) : Int := (Int64.ofInt x).toInt
def am_and (x y : Int) : Int := (Int32.ofInt x &&& Int32.ofInt y).toInt
def am_or (x y : Int) : Int := (Int32.ofInt x ||| Int32.ofInt y).toInt
def am_xor (x y : Int) : Int := (Int32.ofInt x ^^^ Int32.ofInt y).toInt
def am_shl (x y : Int) : Int := (Int32.ofInt x <<< (Int32.ofInt y &&& 31)).toInt
def am_shr (x y : Int) : Int := (Int32.ofInt x >>> (Int32.ofInt y &&& 31)).toInt
def am_ush (x y : Int) : Int := ((Int32.ofInt x).toUInt32 >>> ((Int32.ofInt y).toUInt32 &&& Int32.toUInt32 31)).toInt32.toInt
def am_i2b (x : Int) : Int := (Int32.ofInt x).toInt8.toInt32.toInt
def am_i2s (x : Int) : Int := (Int32.ofInt x).toInt16.toInt32.toInt
def am_cmp (x y : Int) : Int := if y < x then 1 else if x = y then 0 else -1
def am_cb (c : ClassFile.Cond) (x y : Int) : Bool := match c with
  | .eq => decide (x = y)
  | .ne => decide (x ≠ y)
  | .lt => decide (x < y)
  | .ge => decide (y ≤ x)
  | .gt => decide (y < x)
  | .le => decide (x ≤ y)
def am_nth : List AV → Nat → AV
  | [], _ => vN
  | v :: _, 0 => v
  | _ :: t, k + 1 => am_nth t k
def am_set : List AV → Nat → AV → List AV
  | [], _, _ => []
  | _ :: t, 0, v => v :: t
  | a :: t, k + 1, v => a :: am_set t k v
def am_isL : AV → Bool
  | .inr (.inl _) => true
  | _ => false
def am_isN : AV → Bool
  | .inr (.inr (.inr _)) => true
  | _ => false
/-- the word ahead of place k is the first half of a long -/
def am_pre (ls : List AV) : Nat → Bool
  | 0 => false
  | j + 1 => am_isL (am_nth ls j)
def am_gi : AV → Option AV
  | .inl x => some (.inl x)
  | _ => none
def am_gl : AV → Option AV
  | .inr (.inl x) => some (.inr (.inl x))
  | _ => none
def am_gr : AV → Option AV
  | .inr (.inr (.inl q)) => some (.inr (.inr (.inl q)))
  | _ => none
def am_ld (i : Instr) (ls : List AV) : Option AV := match i with
  | .iload_n k => am_gi (am_nth ls k.val)
  | .iload k => am_gi (am_nth ls k)
  | .lload_n k => am_gl (am_nth ls k.val)
  | .lload k => am_gl (am_nth ls k)
  | .aload_n k => am_gr (am_nth ls k.val)
  | .aload k => am_gr (am_nth ls k)
  | _ => none
def am_cst (i : Instr) (a : Int) : Option AV := match i with
  | .iconst _ => some (.inl a)
  | .bipush _ => some (.inl a)
  | .sipush _ => some (.inl a)
  | .ldc _ => some (.inl a)
  | .ldc_w _ => some (.inl a)
  | .lconst _ => some (.inr (.inl a))
  | .ldc2_w _ => some (.inr (.inl a))
  | _ => none
def am_s1 (ls : List AV) (k : Nat) (v : AV) (st : List AV) : Option (List AV × List AV) := if k < ls.length ∧ am_pre ls k = false then some (am_set ls k v, st) else none
def am_s2 (ls : List AV) (k : Nat) (v : AV) (st : List AV) : Option (List AV × List AV) := if k + 1 < ls.length ∧ am_pre ls k = false then some (am_set (am_set ls k v) (k + 1) vN, st) else none
def am_sI (ls : List AV) (k : Nat) : List AV → Option (List AV × List AV)
  | .inl x :: t => am_s1 ls k (.inl x) t
  | _ => none
def am_sR (ls : List AV) (k : Nat) : List AV → Option (List AV × List AV)
  | .inr (.inr (.inl q)) :: t => am_s1 ls k (.inr (.inr (.inl q))) t
  | _ => none
def am_sL (ls : List AV) (k : Nat) : List AV → Option (List AV × List AV)
  | .inr (.inl x) :: t => am_s2 ls k (.inr (.inl x)) t
  | _ => none
def am_sN (ls : List AV) (k : Nat) (n : Int) (st : List AV) : AV → Option (List AV × List AV)
  | .inl x => if inI (x + n) then am_s1 ls k (.inl (x + n)) st else none
  | _ => none
def am_sto (i : Instr) (ls st : List AV) : Option (List AV × List AV) := match i with
  | .istore_n k => am_sI ls k.val st
  | .istore k => am_sI ls k st
  | .astore_n k => am_sR ls k.val st
  | .astore k => am_sR ls k st
  | .lstore_n k => am_sL ls k.val st
  | .lstore k => am_sL ls k st
  | .iinc k n => am_sN ls k n st (am_nth ls k)
  | _ => none
def am_ri (z : Int) (t : List AV) : Option (List AV) := if inI z then some (.inl z :: t) else none
def am_i2 (f : Int → Int → List AV → Option (List AV)) : List AV → Option (List AV)
  | .inl y :: .inl x :: t => f x y t
  | _ => none
def am_l2 (f : Int → Int → List AV → Option (List AV)) : List AV → Option (List AV)
  | .inr (.inl y) :: .inr (.inl x) :: t => f x y t
  | _ => none
def am_i1 (f : Int → List AV → Option (List AV)) : List AV → Option (List AV)
  | .inl x :: t => f x t
  | _ => none
def am_l1 (f : Int → List AV → Option (List AV)) : List AV → Option (List AV)
  | .inr (.inl x) :: t => f x t
  | _ => none
def am_v1 (f : AV → List AV → Option (List AV)) : List AV → Option (List AV)
  | v :: t => if am_isL v then none else f v t
  | _ => none
def am_op (i : Instr) (st : List AV) : Option (List AV) := match i with
  | .iadd => am_i2 (fun x y t => am_ri (x + y) t) st
  | .isub => am_i2 (fun x y t => am_ri (x - y) t) st
  | .imul => am_i2 (fun x y t => am_ri (x * y) t) st
  | .idiv => am_i2 (fun x y t => if 0 ≤ x ∧ 0 < y then some (.inl (x / y) :: t) else none) st
  | .irem => am_i2 (fun x y t => if 0 ≤ x ∧ 0 < y then some (.inl (x % y) :: t) else none) st
  | .iand => am_i2 (fun x y t => some (.inl (am_and x y) :: t)) st
  | .ior => am_i2 (fun x y t => some (.inl (am_or x y) :: t)) st
  | .ixor => am_i2 (fun x y t => some (.inl (am_xor x y) :: t)) st
  | .ishl => am_i2 (fun x y t => some (.inl (am_shl x y) :: t)) st
  | .ishr => am_i2 (fun x y t => some (.inl (am_shr x y) :: t)) st
  | .iushr => am_i2 (fun x y t => some (.inl (am_ush x y) :: t)) st
  | .ladd => am_l2 (fun x y t => some (.inr (.inl (am_wl (x + y))) :: t)) st
  | .lmul => am_l2 (fun x y t => some (.inr (.inl (am_wl (x * y))) :: t)) st
  | .lcmp => am_l2 (fun x y t => some (.inl (am_cmp x y) :: t)) st
  | .i2l => am_i1 (fun x t => some (.inr (.inl x) :: t)) st
  | .l2i => am_l1 (fun x t => some (.inl (am_wi x) :: t)) st
  | .i2b => am_i1 (fun x t => some (.inl (am_i2b x) :: t)) st
  | .i2s => am_i1 (fun x t => some (.inl (am_i2s x) :: t)) st
  | .dup => am_v1 (fun v t => some (v :: v :: t)) st
  | .dup2 => am_v1 (fun v t => am_v1 (fun w t => some (v :: w :: v :: w :: t)) t) st
  | .pop => am_v1 (fun _ t => some t) st
  | _ => none
def am_b1 (f : Int → Nat) : List AV → Option (Nat × List AV)
  | .inl x :: t => some (f x, t)
  | _ => none
def am_b2 (f : Int → Int → Nat) : List AV → Option (Nat × List AV)
  | .inl y :: .inl x :: t => some (f x y, t)
  | _ => none
def am_br (i : Instr) (a : Int) (pc : Nat) (st : List AV) : Option (Nat × List AV) := match i with
  | .goto _ => some (a.toNat, st)
  | .ifCond c _ => am_b1 (fun x => if am_cb c x 0 then a.toNat else pc + 3) st
  | .if_icmp c _ => am_b2 (fun x y => if am_cb c x y then a.toNat else pc + 3) st
  | .tableswitch d lo hi os => am_b1 (fun x => if x < lo ∨ hi < x then ((pc : Int) + d).toNat else ((pc : Int) + os.getD (x - lo).toNat 0).toNat) st
  | .lookupswitch d ps => am_b1 (fun x => ((pc : Int) + Op.lookupswitch.offset ps.toList d x).toNat) st
  | _ => none
/-- there is such a cell now -/
def am_okA (N k : Nat) (i : Int) : Bool := Nat.ble (k + 1) 34 && (decide (0 ≤ i) && (decide (i < am_cnt k) && Nat.ble (am_off k i + 1) N))
def am_okS (N k : Nat) (i : Int) : Bool := am_okA N k i || (Nat.beq k 34 && decide (i = 0))
abbrev HR : Type := Option (List AV × GI × GI)
def am_getf (s : Int) (b : Nat) (g r : GI) (N : Nat) : List AV → HR
  | .inr (.inr (.inl (k, i))) :: t => if k = b ∧ k < 9 ∧ am_okA N k i = true then (if am_ft k s = 2 then (if 0 ≤ r k i s then some (vR (am_tk k s) (r k i s) :: t, g, r) else none) else some (vI (g k i s) :: t, g, r)) else none
  | _ => none
def am_putf (s : Int) (b : Nat) (g r : GI) (N : Nat) : List AV → HR
  | .inl x :: .inr (.inr (.inl (k, i))) :: t => if k = b ∧ k < 9 ∧ am_okA N k i = true ∧ (am_ft k s = 0 ∨ (am_ft k s = 1 ∧ (x = 0 ∨ x = 1))) then some (t, gset g k i s x, r) else none
  | .inr (.inr (.inl (k2, i2))) :: .inr (.inr (.inl (k, i))) :: t => if k = b ∧ k < 9 ∧ am_okA N k i = true ∧ am_ft k s = 2 ∧ am_tk k s = k2 ∧ am_okA N k2 i2 = true then some (t, g, gset r k i s i2) else none
  | _ => none
def am_ald (g r : GI) (N : Nat) (a : Nat) : List AV → HR
  | .inl j :: .inr (.inr (.inl (k, i))) :: t => if am_okS N k i = true ∧ am_ak k = a ∧ 0 ≤ j ∧ j < am_len g k i then some ((if a = 1 then vI (g k i j) else vL (g k i j)) :: t, g, r) else none
  | _ => none
def am_rld (g r : GI) (N : Nat) : List AV → HR
  | .inl j :: .inr (.inr (.inl (k, i))) :: t => if am_okA N k i = true ∧ am_ak k = 3 ∧ 0 ≤ j ∧ j < am_al k i ∧ 0 ≤ r k i j then some (vR (am_tk k 0) (r k i j) :: t, g, r) else none
  | _ => none
def am_ast (g r : GI) (N : Nat) : List AV → HR
  | .inl x :: .inl j :: .inr (.inr (.inl (k, i))) :: t => if am_okA N k i = true ∧ am_ak k = 1 ∧ 0 ≤ j ∧ j < am_al k i then some (t, gset g k i j x, r) else none
  | _ => none
def am_lst (g r : GI) (N : Nat) : List AV → HR
  | .inr (.inl x) :: .inl j :: .inr (.inr (.inl (k, i))) :: t => if am_okA N k i = true ∧ am_ak k = 2 ∧ 0 ≤ j ∧ j < am_al k i ∧ NA ≤ N then some (t, gset g k i j x, r) else none
  | _ => none
def am_rst (g r : GI) (N : Nat) : List AV → HR
  | .inr (.inr (.inl (k2, i2))) :: .inl j :: .inr (.inr (.inl (k, i))) :: t => if am_okA N k i = true ∧ am_ak k = 3 ∧ 0 ≤ j ∧ j < am_al k i ∧ am_tk k 0 = k2 ∧ am_okA N k2 i2 = true then some (t, g, gset r k i j i2) else none
  | _ => none
def am_aln (g r : GI) (N : Nat) : List AV → HR
  | .inr (.inr (.inl (k, i))) :: t => if am_okS N k i = true ∧ am_ak k ≠ 0 then some (vI (am_len g k i) :: t, g, r) else none
  | _ => none
def am_obi (g r : GI) : List AV → HR
  | .inr (.inr (.inl _)) :: t => some (t, g, r)
  | _ => none
def am_wd : List AV → Nat
  | [] => 0
  | v :: t => (if am_isL v then 2 else 1) + am_wd t
def am_acp (g r : GI) (N : Nat) : List AV → HR
  | .inl n :: .inl p2 :: .inr (.inr (.inl (k2, i2))) :: .inl p1 :: .inr (.inr (.inl (k1, i1))) :: t => if am_okA N k1 i1 = true ∧ am_okA N k2 i2 = true ∧ am_ak k1 = 1 ∧ am_ak k2 = 1 ∧ 0 ≤ n ∧ 0 ≤ p1 ∧ 0 ≤ p2 ∧ p1 + n ≤ am_al k1 i1 ∧ p2 + n ≤ am_al k2 i2 ∧ am_wd t ≤ 8 ∧ NA ≤ N then some (t, gcpy g k1 i1 p1 k2 i2 p2 n, r) else none
  | _ => none
def am_mx (g r : GI) : List AV → HR
  | .inl y :: .inl x :: t => if am_wd t ≤ 8 then some (vI (if x < y then y else x) :: t, g, r) else none
  | _ => none
def am_mn (g r : GI) : List AV → HR
  | .inl y :: .inl x :: t => if am_wd t ≤ 8 then some (vI (if y < x then y else x) :: t, g, r) else none
  | _ => none
def am_hp (i : Instr) (a : Int) (b d : Nat) (g r : GI) (N : Nat) (st : List AV) : HR := match i with
  | .getfield _ => am_getf a b g r N st
  | .putfield _ => am_putf a b g r N st
  | .iaload => am_ald g r N 1 st
  | .laload => am_ald g r N 2 st
  | .aaload => am_rld g r N st
  | .iastore => am_ast g r N st
  | .lastore => am_lst g r N st
  | .aastore => am_rst g r N st
  | .arraylength => am_aln g r N st
  | .invokespecial _ => if d = 4 ∧ am_wd st ≤ 9 then am_obi g r st else none
  | .invokestatic _ => if d = 5 then am_acp g r N st else if d = 6 then am_mx g r st else if d = 7 then am_mn g r st else none
  | _ => none
abbrev NR : Type := Option (List AV × GI × GI × Nat)
def am_mk1 (g r : GI) (N : Nat) (t : List AV) : NR := some (vR (am_lay N).1 (am_lay N).2 :: t, gfil g (am_lay N).1 (am_lay N).2 0, gfil r (am_lay N).1 (am_lay N).2 (-1), N + 1)
def am_na (a : Nat) (tk : Nat) (g r : GI) (N : Nat) : List AV → NR
  | .inl n :: t => if N < NA ∧ am_ak (am_lay N).1 = a ∧ (a = 3 → am_tk (am_lay N).1 0 = tk) ∧ n = am_al (am_lay N).1 (am_lay N).2 then am_mk1 g r N t else none
  | _ => none
def am_nw (i : Instr) (a : Int) (g r : GI) (N : Nat) (st : List AV) : NR := match i with
  | .new _ => if N < NA ∧ am_ak (am_lay N).1 = 0 ∧ ((am_lay N).1 : Int) = a then am_mk1 g r N st else none
  | .newarray _ => am_na (a.toNat + 1) 0 g r N st
  | .anewarray _ => am_na 3 a.toNat g r N st
  | _ => none
def am_ret (i : Instr) (rt : Option FieldType) (st : List AV) : Option (Option AV) := match i, st with
  | .ireturn, [.inl x] => if rt = some .int ∨ (rt = some .boolean ∧ (x = 0 ∨ x = 1)) then some (some (.inl x)) else none
  | .lreturn, [.inr (.inl x)] => some (some (.inr (.inl x)))
  | .areturn, [.inr (.inr (.inl q))] => some (some (.inr (.inr (.inl q))))
  | .return_, [] => some none
  | _, _ => none
def am_isC (i : Instr) : Bool := match i with
  | .invokevirtual _ => true
  | .invokestatic _ => true
  | .invokespecial _ => true
  | _ => false
/-- arguments and rest of the stack -/
def am_pop : Nat → List AV → List AV → Option (List AV × List AV)
  | 0, acc, st => some (acc, st)
  | _ + 1, _, [] => none
  | n + 1, acc, v :: st => am_pop n (v :: acc) st
def am_exp : List AV → List AV
  | [] => []
  | v :: t => if am_isL v then v :: vN :: am_exp t else v :: am_exp t
def am_ini (m : Nat) (args : List AV) : List AV := am_exp args ++ List.replicate (am_ml m - (am_exp args).length) vN
def am_thi (N m : Nat) : List AV → Bool
  | .inr (.inr (.inl (k, i))) :: _ => Nat.beq k (am_oc m) && am_okA N k i
  | _ => false
def am_cal (i : Instr) (b c d : Nat) (N : Nat) (st : List AV) : Option (List AV × List AV) :=
  if am_isC i = true ∧ d ≤ 3 then
    match am_pop c [] st with
    | none => none
    | some (args, rest) => if am_wd rest ≤ 8 ∧ (am_exp args).length ≤ am_ml b ∧ args.all (fun v => !am_isN v) = true ∧ (d = 1 ∨ am_thi N b args = true) then some (args, rest) else none
  else none
def am_psh (v : Option AV) (st : List AV) : List AV := match v with
  | none => st
  | some x => x :: st
abbrev SR : Type := Option (Nat × List AV × List AV × GI × GI × Nat)
def am_step (e : EI) (pc : Nat) (ls st : List AV) (g r : GI) (N : Nat) : SR :=
  match am_ld e.1 ls with
  | some v => some (pc + e.2.1, ls, v :: st, g, r, N)
  | none =>
  match am_cst e.1 e.2.2.1 with
  | some v => some (pc + e.2.1, ls, v :: st, g, r, N)
  | none =>
  match am_sto e.1 ls st with
  | some q => some (pc + e.2.1, q.1, q.2, g, r, N)
  | none =>
  match am_op e.1 st with
  | some q => some (pc + e.2.1, ls, q, g, r, N)
  | none =>
  match am_br e.1 e.2.2.1 pc st with
  | some q => some (q.1, ls, q.2, g, r, N)
  | none =>
  match am_hp e.1 e.2.2.1 e.2.2.2.1 e.2.2.2.2.2 g r N st with
  | some q => some (pc + e.2.1, ls, q.1, q.2.1, q.2.2, N)
  | none =>
  match am_nw e.1 e.2.2.1 g r N st with
  | some q => some (pc + e.2.1, ls, q.1, q.2.1, q.2.2.1, q.2.2.2)
  | none => none
abbrev RS : Type := Option (Option AV × GI × GI × Nat)
def am_ex : Nat → Nat → Nat → List AV → List AV → GI → GI → Nat → RS
  | 0, _, _, _, _, _, _, _ => none
  | n + 1, m, pc, ls, st, g, r, N =>
    match am_code m pc with
    | none => none
    | some e =>
      match am_ret e.1 (am_rt m) st with
      | some v => some (v, g, r, N)
      | none =>
        match am_cal e.1 e.2.2.2.1 e.2.2.2.2.1 e.2.2.2.2.2 N st with
        | some (args, rest) =>
          match am_ex n e.2.2.2.1 0 (am_ini e.2.2.2.1 args) [] g r N with
          | none => none
          | some (v, g', r', N') => am_ex n m (pc + 3) ls (am_psh v rest) g' r' N'
        | none =>
          match am_step e pc ls st g r N with
          | none => none
          | some (pc', ls', st', g', r', N') => am_ex n m pc' ls' st' g' r' N'
