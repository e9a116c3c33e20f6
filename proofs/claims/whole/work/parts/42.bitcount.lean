/-! Integer.bitCount on 0 to 255. Written by wip/gen/gen42.py -/
def bc1 (x : Int) : Int := x - am_and (am_ush x 1) 1431655765
def bc2 (x : Int) : Int := am_and x 858993459 + am_and (am_ush x 2) 858993459
def bc3 (x : Int) : Int := am_and (x + am_ush x 4) 252645135
def bc4 (x : Int) : Int := x + am_ush x 8
def bc5 (x : Int) : Int := x + am_ush x 16
def bcn (n : Nat) : Int := ((n % 2 + n / 2 % 2 + n / 4 % 2 + n / 8 % 2 + n / 16 % 2 + n / 32 % 2 + n / 64 % 2 + n / 128 % 2 : Nat) : Int)
theorem bc_ok : ∀ n : Nat, n < 256 → inI (bc1 n) ∧ inI (bc2 (bc1 n)) ∧ inI (bc2 (bc1 n) + am_ush (bc2 (bc1 n)) 4) ∧ inI (bc4 (bc3 (bc2 (bc1 n)))) ∧ inI (bc5 (bc4 (bc3 (bc2 (bc1 n))))) ∧ am_and (bc5 (bc4 (bc3 (bc2 (bc1 n))))) 63 = bcn n := by decide +kernel
section BC
variable {g r : GI}
theorem c_bitCount0 (n : Nat) (hn : n < 256) : Rt 192 [vI (n : Int)] g r (some (vI (bcn n))) g r := by
  refine rt_of ?_
  show Ou 192 0 [vI (n : Int)] [] g r _
  obtain ⟨h1, h2, h3, h4, h5, h6⟩ := bc_ok n hn
  rw [← h6]
  refine o_iload_n (n := 1) rfl rfl rfl ?_
  refine o_iload_n (n := 2) rfl rfl rfl ?_
  refine o_iconst (n := 3) rfl rfl ?_
  refine o_iushr (n := 4) rfl rfl ?_
  refine o_ldc_w (n := 7) rfl rfl ?_
  refine o_iand (n := 8) rfl rfl ?_
  refine o_isub (n := 9) rfl rfl h1 ?_
  refine o_istore_0 (n := 10) rfl rfl ?_
  refine o_iload_n (n := 11) rfl rfl rfl ?_
  refine o_ldc_w (n := 14) rfl rfl ?_
  refine o_iand (n := 15) rfl rfl ?_
  refine o_iload_n (n := 16) rfl rfl rfl ?_
  refine o_iconst (n := 17) rfl rfl ?_
  refine o_iushr (n := 18) rfl rfl ?_
  refine o_ldc_w (n := 21) rfl rfl ?_
  refine o_iand (n := 22) rfl rfl ?_
  refine o_iadd (n := 23) rfl rfl h2 ?_
  refine o_istore_0 (n := 24) rfl rfl ?_
  refine o_iload_n (n := 25) rfl rfl rfl ?_
  refine o_iload_n (n := 26) rfl rfl rfl ?_
  refine o_iconst (n := 27) rfl rfl ?_
  refine o_iushr (n := 28) rfl rfl ?_
  refine o_iadd (n := 29) rfl rfl h3 ?_
  refine o_ldc_w (n := 32) rfl rfl ?_
  refine o_iand (n := 33) rfl rfl ?_
  refine o_istore_0 (n := 34) rfl rfl ?_
  refine o_iload_n (n := 35) rfl rfl rfl ?_
  refine o_iload_n (n := 36) rfl rfl rfl ?_
  refine o_bipush (n := 38) rfl rfl ?_
  refine o_iushr (n := 39) rfl rfl ?_
  refine o_iadd (n := 40) rfl rfl h4 ?_
  refine o_istore_0 (n := 41) rfl rfl ?_
  refine o_iload_n (n := 42) rfl rfl rfl ?_
  refine o_iload_n (n := 43) rfl rfl rfl ?_
  refine o_bipush (n := 45) rfl rfl ?_
  refine o_iushr (n := 46) rfl rfl ?_
  refine o_iadd (n := 47) rfl rfl h5 ?_
  refine o_istore_0 (n := 48) rfl rfl ?_
  refine o_iload_n (n := 49) rfl rfl rfl ?_
  refine o_bipush (n := 51) rfl rfl ?_
  refine o_iand (n := 52) rfl rfl ?_
  refine o_iret rfl rfl ?_
  first | (exfalso; omega; done) | exact ⟨rfl, rfl, rfl⟩
end BC
