/-! the two objects made: a run of the abstract machine that the kernel does -/
def am_g0 : GI := fun _ _ _ => 0
def am_r0 : GI := fun _ _ _ => -1
def am_run1 : RS := am_ex 1000 44 0 (am_ini 44 [vR 7 0]) [] (gfil am_g0 7 0 0) (gfil am_r0 7 0 (-1)) 1
set_option maxRecDepth 100000 in
set_option maxHeartbeats 4000000 in
theorem am_run1_ok : (match am_run1 with
  | some (none, g, r, N) => Nat.beq N 90 && decide (g 7 0 9 = 3) && decide (r 14 0 7 = 7)
  | _ => false) = true := by decide +kernel
