/-! links: every word that the code needs stands in the tables; every row of code is what the bytes decode to. Written by wip/gen/gen05.py -/
theorem am_in1 {w : Cond} (h : w ∈ tables_1_1) : w ∈ lw_tbl := List.mem_append_right _ (show w ∈ tables_1_1 ++ (tables_1_2 ++ (tables_1_3 ++ (tables_1_4 ++ tables_1_5))) from List.mem_append_left _ h)
theorem am_in2 {w : Cond} (h : w ∈ tables_1_2) : w ∈ lw_tbl := List.mem_append_right _ (show w ∈ tables_1_1 ++ (tables_1_2 ++ (tables_1_3 ++ (tables_1_4 ++ tables_1_5))) from List.mem_append_right _ (List.mem_append_left _ h))
theorem am_in3 {w : Cond} (h : w ∈ tables_1_3) : w ∈ lw_tbl := List.mem_append_right _ (show w ∈ tables_1_1 ++ (tables_1_2 ++ (tables_1_3 ++ (tables_1_4 ++ tables_1_5))) from List.mem_append_right _ (List.mem_append_right _ (List.mem_append_left _ h)))
theorem am_in4 {w : Cond} (h : w ∈ tables_1_4) : w ∈ lw_tbl := List.mem_append_right _ (show w ∈ tables_1_1 ++ (tables_1_2 ++ (tables_1_3 ++ (tables_1_4 ++ tables_1_5))) from List.mem_append_right _ (List.mem_append_right _ (List.mem_append_right _ (List.mem_append_left _ h))))
theorem am_in5 {w : Cond} (h : w ∈ tables_1_5) : w ∈ lw_tbl := List.mem_append_right _ (show w ∈ tables_1_1 ++ (tables_1_2 ++ (tables_1_3 ++ (tables_1_4 ++ tables_1_5))) from List.mem_append_right _ (List.mem_append_right _ (List.mem_append_right _ (List.mem_append_right _ h))))
theorem am_in0 {w : Cond} (h : w ∈ k2_sels lw_privs) : w ∈ lw_tbl := List.mem_append_left _ h
def am_TT (k : Nat) : u_T := match k with
  | 0 => TX0
  | 1 => TX1
  | 2 => TX2
  | 3 => TX3
  | 4 => TX4
  | 5 => TX5
  | 6 => TX6
  | 7 => TX7
  | _ => TX8
def am_ty (k : Nat) : Nat → FieldType := match k with
  | 0 => tyX0
  | 1 => tyX1
  | 2 => tyX2
  | 3 => tyX3
  | 4 => tyX4
  | 5 => tyX5
  | 6 => tyX6
  | 7 => tyX7
  | _ => tyX8
def am_FL_0 : List (Nat × Nat × Nat × Nat) := [(0, 9, 0, 0), (0, 15, 0, 1), (0, 18, 0, 2), (1, 9, 1, 1), (1, 21, 1, 0), (2, 14, 2, 0), (2, 20, 2, 1), (2, 23, 2, 2), (2, 27, 2, 3), (2, 37, 1, 1), (2, 44, 5, 1), (3, 9, 3, 0)]
set_option maxRecDepth 20000 in
theorem am_FL_0k : ∀ q ∈ am_FL_0, Cond.fieldLink (am_cn q.1) q.2.1 (am_cn q.2.2.1) (am_TT q.2.2.1 q.2.2.2).2.1 (am_TT q.2.2.1 q.2.2.2).2.2.1 ∈ lw_tbl := List.forall_mem_cons.mpr ⟨(am_in1 (List.mem_of_getElem? (i := 71) rfl)), List.forall_mem_cons.mpr ⟨(am_in1 (List.mem_of_getElem? (i := 74) rfl)), List.forall_mem_cons.mpr ⟨(am_in1 (List.mem_of_getElem? (i := 77) rfl)), List.forall_mem_cons.mpr ⟨(am_in1 (List.mem_of_getElem? (i := 50) rfl)), List.forall_mem_cons.mpr ⟨(am_in1 (List.mem_of_getElem? (i := 47) rfl)), List.forall_mem_cons.mpr ⟨(am_in1 (List.mem_of_getElem? (i := 109) rfl)), List.forall_mem_cons.mpr ⟨(am_in1 (List.mem_of_getElem? (i := 111) rfl)), List.forall_mem_cons.mpr ⟨(am_in1 (List.mem_of_getElem? (i := 113) rfl)), List.forall_mem_cons.mpr ⟨(am_in1 (List.mem_of_getElem? (i := 115) rfl)), List.forall_mem_cons.mpr ⟨(am_in1 (List.mem_of_getElem? (i := 52) rfl)), List.forall_mem_cons.mpr ⟨(am_in1 (List.mem_of_getElem? (i := 31) rfl)), List.forall_mem_cons.mpr ⟨(am_in1 (List.mem_of_getElem? (i := 147) rfl)), fun _ h => absurd h List.not_mem_nil⟩⟩⟩⟩⟩⟩⟩⟩⟩⟩⟩⟩
def am_FL_1 : List (Nat × Nat × Nat × Nat) := [(3, 15, 3, 1), (3, 18, 3, 2), (4, 10, 4, 0), (4, 16, 4, 1), (5, 9, 5, 0), (5, 15, 5, 1), (6, 9, 6, 0), (6, 15, 6, 1), (6, 19, 6, 2), (6, 26, 1, 1), (6, 32, 1, 0), (6, 39, 0, 0)]
set_option maxRecDepth 20000 in
theorem am_FL_1k : ∀ q ∈ am_FL_1, Cond.fieldLink (am_cn q.1) q.2.1 (am_cn q.2.2.1) (am_TT q.2.2.1 q.2.2.2).2.1 (am_TT q.2.2.1 q.2.2.2).2.2.1 ∈ lw_tbl := List.forall_mem_cons.mpr ⟨(am_in1 (List.mem_of_getElem? (i := 149) rfl)), List.forall_mem_cons.mpr ⟨(am_in1 (List.mem_of_getElem? (i := 151) rfl)), List.forall_mem_cons.mpr ⟨(am_in1 (List.mem_of_getElem? (i := 133) rfl)), List.forall_mem_cons.mpr ⟨(am_in1 (List.mem_of_getElem? (i := 135) rfl)), List.forall_mem_cons.mpr ⟨(am_in1 (List.mem_of_getElem? (i := 28) rfl)), List.forall_mem_cons.mpr ⟨(am_in1 (List.mem_of_getElem? (i := 29) rfl)), List.forall_mem_cons.mpr ⟨(am_in1 (List.mem_of_getElem? (i := 91) rfl)), List.forall_mem_cons.mpr ⟨(am_in1 (List.mem_of_getElem? (i := 93) rfl)), List.forall_mem_cons.mpr ⟨(am_in1 (List.mem_of_getElem? (i := 94) rfl)), List.forall_mem_cons.mpr ⟨(am_in1 (List.mem_of_getElem? (i := 53) rfl)), List.forall_mem_cons.mpr ⟨(am_in1 (List.mem_of_getElem? (i := 48) rfl)), List.forall_mem_cons.mpr ⟨(am_in1 (List.mem_of_getElem? (i := 72) rfl)), fun _ h => absurd h List.not_mem_nil⟩⟩⟩⟩⟩⟩⟩⟩⟩⟩⟩⟩
def am_FL_2 : List (Nat × Nat × Nat × Nat) := [(6, 44, 0, 1), (7, 10, 7, 0), (7, 21, 7, 1), (7, 27, 7, 2), (7, 33, 7, 3), (7, 39, 7, 4), (7, 46, 7, 5), (7, 50, 7, 6), (7, 56, 7, 7), (7, 60, 7, 8), (7, 63, 7, 9), (7, 67, 7, 10)]
set_option maxRecDepth 20000 in
theorem am_FL_2k : ∀ q ∈ am_FL_2, Cond.fieldLink (am_cn q.1) q.2.1 (am_cn q.2.2.1) (am_TT q.2.2.1 q.2.2.2).2.1 (am_TT q.2.2.1 q.2.2.2).2.2.1 ∈ lw_tbl := List.forall_mem_cons.mpr ⟨(am_in1 (List.mem_of_getElem? (i := 75) rfl)), List.forall_mem_cons.mpr ⟨(am_in1 (List.mem_of_getElem? (i := 160) rfl)), List.forall_mem_cons.mpr ⟨(am_in1 (List.mem_of_getElem? (i := 161) rfl)), List.forall_mem_cons.mpr ⟨(am_in1 (List.mem_of_getElem? (i := 162) rfl)), List.forall_mem_cons.mpr ⟨(am_in1 (List.mem_of_getElem? (i := 163) rfl)), List.forall_mem_cons.mpr ⟨(am_in1 (List.mem_of_getElem? (i := 164) rfl)), List.forall_mem_cons.mpr ⟨(am_in1 (List.mem_of_getElem? (i := 165) rfl)), List.forall_mem_cons.mpr ⟨(am_in1 (List.mem_of_getElem? (i := 166) rfl)), List.forall_mem_cons.mpr ⟨(am_in1 (List.mem_of_getElem? (i := 167) rfl)), List.forall_mem_cons.mpr ⟨(am_in1 (List.mem_of_getElem? (i := 168) rfl)), List.forall_mem_cons.mpr ⟨(am_in1 (List.mem_of_getElem? (i := 169) rfl)), List.forall_mem_cons.mpr ⟨(am_in1 (List.mem_of_getElem? (i := 170) rfl)), fun _ h => absurd h List.not_mem_nil⟩⟩⟩⟩⟩⟩⟩⟩⟩⟩⟩⟩
def am_FL_3 : List (Nat × Nat × Nat × Nat) := [(7, 70, 7, 11), (7, 73, 7, 12), (7, 76, 7, 13), (7, 82, 1, 1), (7, 85, 5, 1), (7, 117, 2, 2), (7, 128, 2, 3), (7, 135, 2, 0), (7, 142, 0, 0), (7, 145, 0, 1), (7, 168, 3, 0), (7, 174, 3, 1)]
set_option maxRecDepth 20000 in
theorem am_FL_3k : ∀ q ∈ am_FL_3, Cond.fieldLink (am_cn q.1) q.2.1 (am_cn q.2.2.1) (am_TT q.2.2.1 q.2.2.2).2.1 (am_TT q.2.2.1 q.2.2.2).2.2.1 ∈ lw_tbl := List.forall_mem_cons.mpr ⟨(am_in1 (List.mem_of_getElem? (i := 171) rfl)), List.forall_mem_cons.mpr ⟨(am_in1 (List.mem_of_getElem? (i := 172) rfl)), List.forall_mem_cons.mpr ⟨(am_in1 (List.mem_of_getElem? (i := 173) rfl)), List.forall_mem_cons.mpr ⟨(am_in1 (List.mem_of_getElem? (i := 51) rfl)), List.forall_mem_cons.mpr ⟨(am_in1 (List.mem_of_getElem? (i := 30) rfl)), List.forall_mem_cons.mpr ⟨(am_in1 (List.mem_of_getElem? (i := 114) rfl)), List.forall_mem_cons.mpr ⟨(am_in1 (List.mem_of_getElem? (i := 116) rfl)), List.forall_mem_cons.mpr ⟨(am_in1 (List.mem_of_getElem? (i := 110) rfl)), List.forall_mem_cons.mpr ⟨(am_in1 (List.mem_of_getElem? (i := 73) rfl)), List.forall_mem_cons.mpr ⟨(am_in1 (List.mem_of_getElem? (i := 76) rfl)), List.forall_mem_cons.mpr ⟨(am_in1 (List.mem_of_getElem? (i := 148) rfl)), List.forall_mem_cons.mpr ⟨(am_in1 (List.mem_of_getElem? (i := 150) rfl)), fun _ h => absurd h List.not_mem_nil⟩⟩⟩⟩⟩⟩⟩⟩⟩⟩⟩⟩
def am_FL_4 : List (Nat × Nat × Nat × Nat) := [(7, 175, 3, 2), (7, 189, 6, 0), (7, 210, 4, 1), (7, 213, 4, 0), (7, 273, 1, 0), (7, 336, 2, 1), (8, 7, 8, 0), (8, 13, 8, 1), (8, 16, 8, 2), (8, 19, 8, 3), (8, 22, 8, 6), (8, 25, 8, 9)]
set_option maxRecDepth 20000 in
theorem am_FL_4k : ∀ q ∈ am_FL_4, Cond.fieldLink (am_cn q.1) q.2.1 (am_cn q.2.2.1) (am_TT q.2.2.1 q.2.2.2).2.1 (am_TT q.2.2.1 q.2.2.2).2.2.1 ∈ lw_tbl := List.forall_mem_cons.mpr ⟨(am_in1 (List.mem_of_getElem? (i := 152) rfl)), List.forall_mem_cons.mpr ⟨(am_in1 (List.mem_of_getElem? (i := 92) rfl)), List.forall_mem_cons.mpr ⟨(am_in1 (List.mem_of_getElem? (i := 136) rfl)), List.forall_mem_cons.mpr ⟨(am_in1 (List.mem_of_getElem? (i := 134) rfl)), List.forall_mem_cons.mpr ⟨(am_in1 (List.mem_of_getElem? (i := 49) rfl)), List.forall_mem_cons.mpr ⟨(am_in1 (List.mem_of_getElem? (i := 112) rfl)), List.forall_mem_cons.mpr ⟨(am_in3 (List.mem_of_getElem? (i := 155) rfl)), List.forall_mem_cons.mpr ⟨(am_in3 (List.mem_of_getElem? (i := 156) rfl)), List.forall_mem_cons.mpr ⟨(am_in3 (List.mem_of_getElem? (i := 157) rfl)), List.forall_mem_cons.mpr ⟨(am_in3 (List.mem_of_getElem? (i := 158) rfl)), List.forall_mem_cons.mpr ⟨(am_in3 (List.mem_of_getElem? (i := 161) rfl)), List.forall_mem_cons.mpr ⟨(am_in3 (List.mem_of_getElem? (i := 164) rfl)), fun _ h => absurd h List.not_mem_nil⟩⟩⟩⟩⟩⟩⟩⟩⟩⟩⟩⟩
def am_FL_5 : List (Nat × Nat × Nat × Nat) := [(8, 28, 8, 10), (8, 31, 8, 11), (8, 34, 8, 13), (8, 37, 8, 16), (8, 40, 8, 17), (8, 43, 8, 18), (8, 46, 8, 20), (8, 49, 8, 21), (8, 53, 8, 22), (8, 56, 8, 23), (8, 59, 8, 24), (8, 62, 8, 5)]
set_option maxRecDepth 20000 in
theorem am_FL_5k : ∀ q ∈ am_FL_5, Cond.fieldLink (am_cn q.1) q.2.1 (am_cn q.2.2.1) (am_TT q.2.2.1 q.2.2.2).2.1 (am_TT q.2.2.1 q.2.2.2).2.2.1 ∈ lw_tbl := List.forall_mem_cons.mpr ⟨(am_in3 (List.mem_of_getElem? (i := 165) rfl)), List.forall_mem_cons.mpr ⟨(am_in3 (List.mem_of_getElem? (i := 166) rfl)), List.forall_mem_cons.mpr ⟨(am_in3 (List.mem_of_getElem? (i := 168) rfl)), List.forall_mem_cons.mpr ⟨(am_in3 (List.mem_of_getElem? (i := 171) rfl)), List.forall_mem_cons.mpr ⟨(am_in3 (List.mem_of_getElem? (i := 172) rfl)), List.forall_mem_cons.mpr ⟨(am_in3 (List.mem_of_getElem? (i := 173) rfl)), List.forall_mem_cons.mpr ⟨(am_in3 (List.mem_of_getElem? (i := 175) rfl)), List.forall_mem_cons.mpr ⟨(am_in3 (List.mem_of_getElem? (i := 176) rfl)), List.forall_mem_cons.mpr ⟨(am_in3 (List.mem_of_getElem? (i := 177) rfl)), List.forall_mem_cons.mpr ⟨(am_in3 (List.mem_of_getElem? (i := 178) rfl)), List.forall_mem_cons.mpr ⟨(am_in3 (List.mem_of_getElem? (i := 179) rfl)), List.forall_mem_cons.mpr ⟨(am_in3 (List.mem_of_getElem? (i := 160) rfl)), fun _ h => absurd h List.not_mem_nil⟩⟩⟩⟩⟩⟩⟩⟩⟩⟩⟩⟩
def am_FL_6 : List (Nat × Nat × Nat × Nat) := [(8, 70, 8, 4), (8, 96, 8, 8), (8, 99, 8, 14), (8, 104, 8, 7), (8, 119, 8, 19), (8, 122, 8, 12), (8, 233, 8, 15)]
set_option maxRecDepth 20000 in
theorem am_FL_6k : ∀ q ∈ am_FL_6, Cond.fieldLink (am_cn q.1) q.2.1 (am_cn q.2.2.1) (am_TT q.2.2.1 q.2.2.2).2.1 (am_TT q.2.2.1 q.2.2.2).2.2.1 ∈ lw_tbl := List.forall_mem_cons.mpr ⟨(am_in3 (List.mem_of_getElem? (i := 159) rfl)), List.forall_mem_cons.mpr ⟨(am_in3 (List.mem_of_getElem? (i := 163) rfl)), List.forall_mem_cons.mpr ⟨(am_in3 (List.mem_of_getElem? (i := 169) rfl)), List.forall_mem_cons.mpr ⟨(am_in3 (List.mem_of_getElem? (i := 162) rfl)), List.forall_mem_cons.mpr ⟨(am_in3 (List.mem_of_getElem? (i := 174) rfl)), List.forall_mem_cons.mpr ⟨(am_in3 (List.mem_of_getElem? (i := 167) rfl)), List.forall_mem_cons.mpr ⟨(am_in3 (List.mem_of_getElem? (i := 170) rfl)), fun _ h => absurd h List.not_mem_nil⟩⟩⟩⟩⟩⟩⟩
def am_FL : List (Nat × Nat × Nat × Nat) := am_FL_0 ++ (am_FL_1 ++ (am_FL_2 ++ (am_FL_3 ++ (am_FL_4 ++ (am_FL_5 ++ (am_FL_6))))))
theorem am_FL_ok : ∀ q ∈ am_FL, Cond.fieldLink (am_cn q.1) q.2.1 (am_cn q.2.2.1) (am_TT q.2.2.1 q.2.2.2).2.1 (am_TT q.2.2.1 q.2.2.2).2.2.1 ∈ lw_tbl := List.forall_mem_append.mpr ⟨am_FL_0k, List.forall_mem_append.mpr ⟨am_FL_1k, List.forall_mem_append.mpr ⟨am_FL_2k, List.forall_mem_append.mpr ⟨am_FL_3k, List.forall_mem_append.mpr ⟨am_FL_4k, List.forall_mem_append.mpr ⟨am_FL_5k, am_FL_6k⟩⟩⟩⟩⟩⟩
def am_ML_0 : List (Nat × Nat × Nat) := [(0, 28, 2), (0, 32, 8), (0, 36, 3), (1, 25, 15), (2, 11, 12), (2, 31, 32), (2, 40, 34), (2, 45, 33), (3, 22, 193), (4, 9, 0), (5, 19, 35), (5, 23, 36)]
set_option maxRecDepth 20000 in
theorem am_ML_0k : ∀ q ∈ am_ML_0, Cond.methodLink (am_cn q.1) q.2.1 (am_nm q.2.2) ∈ lw_tbl := List.forall_mem_cons.mpr ⟨(am_in2 (List.mem_of_getElem? (i := 162) rfl)), List.forall_mem_cons.mpr ⟨(am_in3 (List.mem_of_getElem? (i := 7) rfl)), List.forall_mem_cons.mpr ⟨(am_in3 (List.mem_of_getElem? (i := 11) rfl)), List.forall_mem_cons.mpr ⟨(am_in2 (List.mem_of_getElem? (i := 104) rfl)), List.forall_mem_cons.mpr ⟨(am_in1 (List.mem_of_getElem? (i := 108) rfl)), List.forall_mem_cons.mpr ⟨(am_in2 (List.mem_of_getElem? (i := 8) rfl)), List.forall_mem_cons.mpr ⟨(am_in2 (List.mem_of_getElem? (i := 12) rfl)), List.forall_mem_cons.mpr ⟨(am_in2 (List.mem_of_getElem? (i := 20) rfl)), List.forall_mem_cons.mpr ⟨(am_in3 (List.mem_of_getElem? (i := 66) rfl)), List.forall_mem_cons.mpr ⟨(am_in1 (List.mem_of_getElem? (i := 132) rfl)), List.forall_mem_cons.mpr ⟨(am_in1 (List.mem_of_getElem? (i := 227) rfl)), List.forall_mem_cons.mpr ⟨(am_in1 (List.mem_of_getElem? (i := 230) rfl)), fun _ h => absurd h List.not_mem_nil⟩⟩⟩⟩⟩⟩⟩⟩⟩⟩⟩⟩
def am_ML_1 : List (Nat × Nat × Nat) := [(5, 27, 13), (6, 22, 40), (6, 35, 41), (6, 47, 10), (6, 51, 11), (6, 57, 38), (6, 61, 9), (6, 65, 43), (7, 18, 12), (7, 45, 0), (7, 86, 29), (7, 89, 31)]
set_option maxRecDepth 20000 in
theorem am_ML_1k : ∀ q ∈ am_ML_1, Cond.methodLink (am_cn q.1) q.2.1 (am_nm q.2.2) ∈ lw_tbl := List.forall_mem_cons.mpr ⟨(am_in2 (List.mem_of_getElem? (i := 16) rfl)), List.forall_mem_cons.mpr ⟨(am_in2 (List.mem_of_getElem? (i := 66) rfl)), List.forall_mem_cons.mpr ⟨(am_in2 (List.mem_of_getElem? (i := 70) rfl)), List.forall_mem_cons.mpr ⟨(am_in2 (List.mem_of_getElem? (i := 74) rfl)), List.forall_mem_cons.mpr ⟨(am_in2 (List.mem_of_getElem? (i := 78) rfl)), List.forall_mem_cons.mpr ⟨(am_in2 (List.mem_of_getElem? (i := 87) rfl)), List.forall_mem_cons.mpr ⟨(am_in2 (List.mem_of_getElem? (i := 91) rfl)), List.forall_mem_cons.mpr ⟨(am_in2 (List.mem_of_getElem? (i := 96) rfl)), List.forall_mem_cons.mpr ⟨(am_in1 (List.mem_of_getElem? (i := 40) rfl)), List.forall_mem_cons.mpr ⟨(am_in1 (List.mem_of_getElem? (i := 67) rfl)), List.forall_mem_cons.mpr ⟨(am_in1 (List.mem_of_getElem? (i := 211) rfl)), List.forall_mem_cons.mpr ⟨(am_in1 (List.mem_of_getElem? (i := 223) rfl)), fun _ h => absurd h List.not_mem_nil⟩⟩⟩⟩⟩⟩⟩⟩⟩⟩⟩⟩
def am_ML_2 : List (Nat × Nat × Nat) := [(7, 93, 30), (7, 96, 85), (7, 99, 21), (7, 103, 87), (7, 107, 88), (7, 110, 20), (7, 114, 14), (7, 121, 84), (7, 125, 98), (7, 131, 101), (7, 138, 17), (7, 148, 90)]
set_option maxRecDepth 20000 in
theorem am_ML_2k : ∀ q ∈ am_ML_2, Cond.methodLink (am_cn q.1) q.2.1 (am_nm q.2.2) ∈ lw_tbl := List.forall_mem_cons.mpr ⟨(am_in1 (List.mem_of_getElem? (i := 233) rfl)), List.forall_mem_cons.mpr ⟨(am_in2 (List.mem_of_getElem? (i := 1) rfl)), List.forall_mem_cons.mpr ⟨(am_in2 (List.mem_of_getElem? (i := 4) rfl)), List.forall_mem_cons.mpr ⟨(am_in2 (List.mem_of_getElem? (i := 28) rfl)), List.forall_mem_cons.mpr ⟨(am_in2 (List.mem_of_getElem? (i := 36) rfl)), List.forall_mem_cons.mpr ⟨(am_in2 (List.mem_of_getElem? (i := 39) rfl)), List.forall_mem_cons.mpr ⟨(am_in2 (List.mem_of_getElem? (i := 43) rfl)), List.forall_mem_cons.mpr ⟨(am_in2 (List.mem_of_getElem? (i := 51) rfl)), List.forall_mem_cons.mpr ⟨(am_in2 (List.mem_of_getElem? (i := 54) rfl)), List.forall_mem_cons.mpr ⟨(am_in2 (List.mem_of_getElem? (i := 58) rfl)), List.forall_mem_cons.mpr ⟨(am_in2 (List.mem_of_getElem? (i := 100) rfl)), List.forall_mem_cons.mpr ⟨(am_in2 (List.mem_of_getElem? (i := 120) rfl)), fun _ h => absurd h List.not_mem_nil⟩⟩⟩⟩⟩⟩⟩⟩⟩⟩⟩⟩
def am_ML_3 : List (Nat × Nat × Nat) := [(7, 152, 91), (7, 155, 2), (7, 159, 3), (7, 162, 89), (7, 165, 93), (7, 171, 86), (7, 179, 5), (7, 182, 4), (7, 185, 39), (7, 192, 38), (7, 196, 97), (7, 200, 102)]
set_option maxRecDepth 20000 in
theorem am_ML_3k : ∀ q ∈ am_ML_3, Cond.methodLink (am_cn q.1) q.2.1 (am_nm q.2.2) ∈ lw_tbl := List.forall_mem_cons.mpr ⟨(am_in2 (List.mem_of_getElem? (i := 128) rfl)), List.forall_mem_cons.mpr ⟨(am_in2 (List.mem_of_getElem? (i := 131) rfl)), List.forall_mem_cons.mpr ⟨(am_in2 (List.mem_of_getElem? (i := 135) rfl)), List.forall_mem_cons.mpr ⟨(am_in2 (List.mem_of_getElem? (i := 124) rfl)), List.forall_mem_cons.mpr ⟨(am_in2 (List.mem_of_getElem? (i := 147) rfl)), List.forall_mem_cons.mpr ⟨(am_in2 (List.mem_of_getElem? (i := 150) rfl)), List.forall_mem_cons.mpr ⟨(am_in2 (List.mem_of_getElem? (i := 158) rfl)), List.forall_mem_cons.mpr ⟨(am_in2 (List.mem_of_getElem? (i := 167) rfl)), List.forall_mem_cons.mpr ⟨(am_in2 (List.mem_of_getElem? (i := 62) rfl)), List.forall_mem_cons.mpr ⟨(am_in2 (List.mem_of_getElem? (i := 171) rfl)), List.forall_mem_cons.mpr ⟨(am_in2 (List.mem_of_getElem? (i := 176) rfl)), List.forall_mem_cons.mpr ⟨(am_in2 (List.mem_of_getElem? (i := 188) rfl)), fun _ h => absurd h List.not_mem_nil⟩⟩⟩⟩⟩⟩⟩⟩⟩⟩⟩⟩
def am_ML_4 : List (Nat × Nat × Nat) := [(7, 204, 103), (7, 207, 92), (7, 216, 95), (7, 219, 96), (7, 222, 99), (7, 225, 104), (7, 228, 105), (7, 231, 34), (7, 235, 16), (7, 238, 106), (7, 241, 69), (7, 244, 94)]
set_option maxRecDepth 20000 in
theorem am_ML_4k : ∀ q ∈ am_ML_4, Cond.methodLink (am_cn q.1) q.2.1 (am_nm q.2.2) ∈ lw_tbl := List.forall_mem_cons.mpr ⟨(am_in2 (List.mem_of_getElem? (i := 192) rfl)), List.forall_mem_cons.mpr ⟨(am_in2 (List.mem_of_getElem? (i := 211) rfl)), List.forall_mem_cons.mpr ⟨(am_in2 (List.mem_of_getElem? (i := 180) rfl)), List.forall_mem_cons.mpr ⟨(am_in2 (List.mem_of_getElem? (i := 184) rfl)), List.forall_mem_cons.mpr ⟨(am_in2 (List.mem_of_getElem? (i := 227) rfl)), List.forall_mem_cons.mpr ⟨(am_in2 (List.mem_of_getElem? (i := 235) rfl)), List.forall_mem_cons.mpr ⟨(am_in2 (List.mem_of_getElem? (i := 239) rfl)), List.forall_mem_cons.mpr ⟨(am_in3 (List.mem_of_getElem? (i := 24) rfl)), List.forall_mem_cons.mpr ⟨(am_in3 (List.mem_of_getElem? (i := 29) rfl)), List.forall_mem_cons.mpr ⟨(am_in3 (List.mem_of_getElem? (i := 33) rfl)), List.forall_mem_cons.mpr ⟨(am_in3 (List.mem_of_getElem? (i := 46) rfl)), List.forall_mem_cons.mpr ⟨(am_in3 (List.mem_of_getElem? (i := 59) rfl)), fun _ h => absurd h List.not_mem_nil⟩⟩⟩⟩⟩⟩⟩⟩⟩⟩⟩⟩
def am_ML_5 : List (Nat × Nat × Nat) := [(7, 247, 23), (7, 251, 24), (7, 254, 26), (7, 258, 25), (7, 276, 192), (7, 281, 100), (7, 286, 79), (7, 289, 83), (7, 293, 48), (7, 296, 58), (7, 299, 65), (7, 302, 81)]
set_option maxRecDepth 20000 in
theorem am_ML_5k : ∀ q ∈ am_ML_5, Cond.methodLink (am_cn q.1) q.2.1 (am_nm q.2.2) ∈ lw_tbl := List.forall_mem_cons.mpr ⟨(am_in3 (List.mem_of_getElem? (i := 62) rfl)), List.forall_mem_cons.mpr ⟨(am_in3 (List.mem_of_getElem? (i := 77) rfl)), List.forall_mem_cons.mpr ⟨(am_in3 (List.mem_of_getElem? (i := 81) rfl)), List.forall_mem_cons.mpr ⟨(am_in3 (List.mem_of_getElem? (i := 94) rfl)), List.forall_mem_cons.mpr ⟨(am_in3 (List.mem_of_getElem? (i := 110) rfl)), List.forall_mem_cons.mpr ⟨(am_in3 (List.mem_of_getElem? (i := 116) rfl)), List.forall_mem_cons.mpr ⟨(am_in3 (List.mem_of_getElem? (i := 125) rfl)), List.forall_mem_cons.mpr ⟨(am_in3 (List.mem_of_getElem? (i := 126) rfl)), List.forall_mem_cons.mpr ⟨(am_in3 (List.mem_of_getElem? (i := 130) rfl)), List.forall_mem_cons.mpr ⟨(am_in3 (List.mem_of_getElem? (i := 131) rfl)), List.forall_mem_cons.mpr ⟨(am_in3 (List.mem_of_getElem? (i := 132) rfl)), List.forall_mem_cons.mpr ⟨(am_in3 (List.mem_of_getElem? (i := 133) rfl)), fun _ h => absurd h List.not_mem_nil⟩⟩⟩⟩⟩⟩⟩⟩⟩⟩⟩⟩
def am_ML_6 : List (Nat × Nat × Nat) := [(7, 306, 82), (7, 309, 62), (7, 312, 72), (7, 315, 63), (7, 319, 71), (7, 322, 52), (7, 325, 51), (7, 328, 59), (7, 331, 56), (7, 339, 42), (7, 343, 1), (7, 347, 6)]
set_option maxRecDepth 20000 in
theorem am_ML_6k : ∀ q ∈ am_ML_6, Cond.methodLink (am_cn q.1) q.2.1 (am_nm q.2.2) ∈ lw_tbl := List.forall_mem_cons.mpr ⟨(am_in3 (List.mem_of_getElem? (i := 140) rfl)), List.forall_mem_cons.mpr ⟨(am_in3 (List.mem_of_getElem? (i := 145) rfl)), List.forall_mem_cons.mpr ⟨(am_in3 (List.mem_of_getElem? (i := 146) rfl)), List.forall_mem_cons.mpr ⟨(am_in3 (List.mem_of_getElem? (i := 147) rfl)), List.forall_mem_cons.mpr ⟨(am_in3 (List.mem_of_getElem? (i := 148) rfl)), List.forall_mem_cons.mpr ⟨(am_in3 (List.mem_of_getElem? (i := 137) rfl)), List.forall_mem_cons.mpr ⟨(am_in3 (List.mem_of_getElem? (i := 138) rfl)), List.forall_mem_cons.mpr ⟨(am_in3 (List.mem_of_getElem? (i := 139) rfl)), List.forall_mem_cons.mpr ⟨(am_in3 (List.mem_of_getElem? (i := 144) rfl)), List.forall_mem_cons.mpr ⟨(am_in2 (List.mem_of_getElem? (i := 83) rfl)), List.forall_mem_cons.mpr ⟨(am_in2 (List.mem_of_getElem? (i := 196) rfl)), List.forall_mem_cons.mpr ⟨(am_in3 (List.mem_of_getElem? (i := 3) rfl)), fun _ h => absurd h List.not_mem_nil⟩⟩⟩⟩⟩⟩⟩⟩⟩⟩⟩⟩
def am_ML_7 : List (Nat × Nat × Nat) := [(7, 350, 7), (7, 353, 18), (8, 66, 108), (8, 75, 113), (8, 81, 112), (8, 85, 116), (8, 89, 117), (8, 109, 124), (8, 112, 125), (8, 116, 126), (8, 125, 129), (8, 128, 110)]
set_option maxRecDepth 20000 in
theorem am_ML_7k : ∀ q ∈ am_ML_7, Cond.methodLink (am_cn q.1) q.2.1 (am_nm q.2.2) ∈ lw_tbl := List.forall_mem_cons.mpr ⟨(am_in3 (List.mem_of_getElem? (i := 12) rfl)), List.forall_mem_cons.mpr ⟨(am_in3 (List.mem_of_getElem? (i := 37) rfl)), List.forall_mem_cons.mpr ⟨(am_in4 (List.mem_of_getElem? (i := 0) rfl)), List.forall_mem_cons.mpr ⟨(am_in3 (List.mem_of_getElem? (i := 236) rfl)), List.forall_mem_cons.mpr ⟨(am_in4 (List.mem_of_getElem? (i := 4) rfl)), List.forall_mem_cons.mpr ⟨(am_in4 (List.mem_of_getElem? (i := 16) rfl)), List.forall_mem_cons.mpr ⟨(am_in4 (List.mem_of_getElem? (i := 20) rfl)), List.forall_mem_cons.mpr ⟨(am_in4 (List.mem_of_getElem? (i := 54) rfl)), List.forall_mem_cons.mpr ⟨(am_in4 (List.mem_of_getElem? (i := 50) rfl)), List.forall_mem_cons.mpr ⟨(am_in4 (List.mem_of_getElem? (i := 59) rfl)), List.forall_mem_cons.mpr ⟨(am_in4 (List.mem_of_getElem? (i := 71) rfl)), List.forall_mem_cons.mpr ⟨(am_in4 (List.mem_of_getElem? (i := 75) rfl)), fun _ h => absurd h List.not_mem_nil⟩⟩⟩⟩⟩⟩⟩⟩⟩⟩⟩⟩
def am_ML_8 : List (Nat × Nat × Nat) := [(8, 132, 109), (8, 139, 131), (8, 142, 133), (8, 145, 135), (8, 149, 136), (8, 155, 137), (8, 159, 138), (8, 163, 140), (8, 166, 139), (8, 169, 142), (8, 172, 144), (8, 175, 134)]
set_option maxRecDepth 20000 in
theorem am_ML_8k : ∀ q ∈ am_ML_8, Cond.methodLink (am_cn q.1) q.2.1 (am_nm q.2.2) ∈ lw_tbl := List.forall_mem_cons.mpr ⟨(am_in4 (List.mem_of_getElem? (i := 82) rfl)), List.forall_mem_cons.mpr ⟨(am_in4 (List.mem_of_getElem? (i := 87) rfl)), List.forall_mem_cons.mpr ⟨(am_in4 (List.mem_of_getElem? (i := 126) rfl)), List.forall_mem_cons.mpr ⟨(am_in4 (List.mem_of_getElem? (i := 115) rfl)), List.forall_mem_cons.mpr ⟨(am_in4 (List.mem_of_getElem? (i := 111) rfl)), List.forall_mem_cons.mpr ⟨(am_in4 (List.mem_of_getElem? (i := 107) rfl)), List.forall_mem_cons.mpr ⟨(am_in4 (List.mem_of_getElem? (i := 119) rfl)), List.forall_mem_cons.mpr ⟨(am_in4 (List.mem_of_getElem? (i := 163) rfl)), List.forall_mem_cons.mpr ⟨(am_in4 (List.mem_of_getElem? (i := 103) rfl)), List.forall_mem_cons.mpr ⟨(am_in4 (List.mem_of_getElem? (i := 187) rfl)), List.forall_mem_cons.mpr ⟨(am_in4 (List.mem_of_getElem? (i := 99) rfl)), List.forall_mem_cons.mpr ⟨(am_in4 (List.mem_of_getElem? (i := 122) rfl)), fun _ h => absurd h List.not_mem_nil⟩⟩⟩⟩⟩⟩⟩⟩⟩⟩⟩⟩
def am_ML_9 : List (Nat × Nat × Nat) := [(8, 178, 145), (8, 181, 149), (8, 187, 150), (8, 191, 155), (8, 194, 143), (8, 197, 141), (8, 200, 157), (8, 204, 158), (8, 207, 162), (8, 210, 161), (8, 213, 163), (8, 216, 167)]
set_option maxRecDepth 20000 in
theorem am_ML_9k : ∀ q ∈ am_ML_9, Cond.methodLink (am_cn q.1) q.2.1 (am_nm q.2.2) ∈ lw_tbl := List.forall_mem_cons.mpr ⟨(am_in4 (List.mem_of_getElem? (i := 95) rfl)), List.forall_mem_cons.mpr ⟨(am_in4 (List.mem_of_getElem? (i := 142) rfl)), List.forall_mem_cons.mpr ⟨(am_in4 (List.mem_of_getElem? (i := 147) rfl)), List.forall_mem_cons.mpr ⟨(am_in4 (List.mem_of_getElem? (i := 171) rfl)), List.forall_mem_cons.mpr ⟨(am_in4 (List.mem_of_getElem? (i := 183) rfl)), List.forall_mem_cons.mpr ⟨(am_in4 (List.mem_of_getElem? (i := 191) rfl)), List.forall_mem_cons.mpr ⟨(am_in4 (List.mem_of_getElem? (i := 195) rfl)), List.forall_mem_cons.mpr ⟨(am_in4 (List.mem_of_getElem? (i := 179) rfl)), List.forall_mem_cons.mpr ⟨(am_in4 (List.mem_of_getElem? (i := 215) rfl)), List.forall_mem_cons.mpr ⟨(am_in4 (List.mem_of_getElem? (i := 207) rfl)), List.forall_mem_cons.mpr ⟨(am_in4 (List.mem_of_getElem? (i := 211) rfl)), List.forall_mem_cons.mpr ⟨(am_in4 (List.mem_of_getElem? (i := 235) rfl)), fun _ h => absurd h List.not_mem_nil⟩⟩⟩⟩⟩⟩⟩⟩⟩⟩⟩⟩
def am_ML_10 : List (Nat × Nat × Nat) := [(8, 219, 168), (8, 222, 170), (8, 225, 171), (8, 230, 172), (8, 236, 176), (8, 239, 177), (8, 242, 178), (8, 249, 181), (8, 252, 183), (8, 255, 111), (8, 258, 186), (8, 261, 187)]
set_option maxRecDepth 20000 in
theorem am_ML_10k : ∀ q ∈ am_ML_10, Cond.methodLink (am_cn q.1) q.2.1 (am_nm q.2.2) ∈ lw_tbl := List.forall_mem_cons.mpr ⟨(am_in4 (List.mem_of_getElem? (i := 231) rfl)), List.forall_mem_cons.mpr ⟨(am_in5 (List.mem_of_getElem? (i := 4) rfl)), List.forall_mem_cons.mpr ⟨(am_in5 (List.mem_of_getElem? (i := 12) rfl)), List.forall_mem_cons.mpr ⟨(am_in5 (List.mem_of_getElem? (i := 8) rfl)), List.forall_mem_cons.mpr ⟨(am_in5 (List.mem_of_getElem? (i := 32) rfl)), List.forall_mem_cons.mpr ⟨(am_in5 (List.mem_of_getElem? (i := 36) rfl)), List.forall_mem_cons.mpr ⟨(am_in5 (List.mem_of_getElem? (i := 28) rfl)), List.forall_mem_cons.mpr ⟨(am_in5 (List.mem_of_getElem? (i := 50) rfl)), List.forall_mem_cons.mpr ⟨(am_in5 (List.mem_of_getElem? (i := 58) rfl)), List.forall_mem_cons.mpr ⟨(am_in5 (List.mem_of_getElem? (i := 66) rfl)), List.forall_mem_cons.mpr ⟨(am_in5 (List.mem_of_getElem? (i := 73) rfl)), List.forall_mem_cons.mpr ⟨(am_in5 (List.mem_of_getElem? (i := 77) rfl)), fun _ h => absurd h List.not_mem_nil⟩⟩⟩⟩⟩⟩⟩⟩⟩⟩⟩⟩
def am_ML_11 : List (Nat × Nat × Nat) := [(8, 268, 188), (8, 271, 154), (8, 274, 189), (8, 278, 190), (13, 9, 44), (13, 12, 107), (13, 13, 45), (13, 17, 121), (13, 18, 46), (13, 21, 122), (13, 22, 47), (13, 26, 123)]
set_option maxRecDepth 20000 in
theorem am_ML_11k : ∀ q ∈ am_ML_11, Cond.methodLink (am_cn q.1) q.2.1 (am_nm q.2.2) ∈ lw_tbl := List.forall_mem_cons.mpr ⟨(am_in5 (List.mem_of_getElem? (i := 87) rfl)), List.forall_mem_cons.mpr ⟨(am_in5 (List.mem_of_getElem? (i := 88) rfl)), List.forall_mem_cons.mpr ⟨(am_in5 (List.mem_of_getElem? (i := 89) rfl)), List.forall_mem_cons.mpr ⟨(am_in5 (List.mem_of_getElem? (i := 93) rfl)), List.forall_mem_cons.mpr ⟨(am_in1 (List.mem_of_getElem? (i := 16) rfl)), List.forall_mem_cons.mpr ⟨(am_in3 (List.mem_of_getElem? (i := 151) rfl)), List.forall_mem_cons.mpr ⟨(am_in1 (List.mem_of_getElem? (i := 203) rfl)), List.forall_mem_cons.mpr ⟨(am_in4 (List.mem_of_getElem? (i := 32) rfl)), List.forall_mem_cons.mpr ⟨(am_in1 (List.mem_of_getElem? (i := 207) rfl)), List.forall_mem_cons.mpr ⟨(am_in4 (List.mem_of_getElem? (i := 37) rfl)), List.forall_mem_cons.mpr ⟨(am_in1 (List.mem_of_getElem? (i := 215) rfl)), List.forall_mem_cons.mpr ⟨(am_in4 (List.mem_of_getElem? (i := 42) rfl)), fun _ h => absurd h List.not_mem_nil⟩⟩⟩⟩⟩⟩⟩⟩⟩⟩⟩⟩
def am_ML_12 : List (Nat × Nat × Nat) := [(13, 27, 48), (13, 30, 127), (13, 31, 49), (13, 34, 128), (13, 35, 50), (13, 38, 130), (13, 39, 51), (13, 43, 132), (13, 44, 52), (13, 48, 146), (13, 49, 53), (13, 52, 147)]
set_option maxRecDepth 20000 in
theorem am_ML_12k : ∀ q ∈ am_ML_12, Cond.methodLink (am_cn q.1) q.2.1 (am_nm q.2.2) ∈ lw_tbl := List.forall_mem_cons.mpr ⟨(am_in1 (List.mem_of_getElem? (i := 219) rfl)), List.forall_mem_cons.mpr ⟨(am_in4 (List.mem_of_getElem? (i := 46) rfl)), List.forall_mem_cons.mpr ⟨(am_in1 (List.mem_of_getElem? (i := 237) rfl)), List.forall_mem_cons.mpr ⟨(am_in4 (List.mem_of_getElem? (i := 63) rfl)), List.forall_mem_cons.mpr ⟨(am_in2 (List.mem_of_getElem? (i := 24) rfl)), List.forall_mem_cons.mpr ⟨(am_in4 (List.mem_of_getElem? (i := 67) rfl)), List.forall_mem_cons.mpr ⟨(am_in2 (List.mem_of_getElem? (i := 32) rfl)), List.forall_mem_cons.mpr ⟨(am_in4 (List.mem_of_getElem? (i := 78) rfl)), List.forall_mem_cons.mpr ⟨(am_in2 (List.mem_of_getElem? (i := 47) rfl)), List.forall_mem_cons.mpr ⟨(am_in4 (List.mem_of_getElem? (i := 91) rfl)), List.forall_mem_cons.mpr ⟨(am_in2 (List.mem_of_getElem? (i := 108) rfl)), List.forall_mem_cons.mpr ⟨(am_in4 (List.mem_of_getElem? (i := 130) rfl)), fun _ h => absurd h List.not_mem_nil⟩⟩⟩⟩⟩⟩⟩⟩⟩⟩⟩⟩
def am_ML_13 : List (Nat × Nat × Nat) := [(13, 53, 54), (13, 56, 148), (13, 57, 55), (13, 61, 151), (13, 62, 56), (13, 65, 152), (13, 66, 57), (13, 69, 153), (13, 70, 58), (13, 73, 154), (13, 74, 59), (13, 77, 156)]
set_option maxRecDepth 20000 in
theorem am_ML_13k : ∀ q ∈ am_ML_13, Cond.methodLink (am_cn q.1) q.2.1 (am_nm q.2.2) ∈ lw_tbl := List.forall_mem_cons.mpr ⟨(am_in2 (List.mem_of_getElem? (i := 112) rfl)), List.forall_mem_cons.mpr ⟨(am_in4 (List.mem_of_getElem? (i := 134) rfl)), List.forall_mem_cons.mpr ⟨(am_in2 (List.mem_of_getElem? (i := 116) rfl)), List.forall_mem_cons.mpr ⟨(am_in4 (List.mem_of_getElem? (i := 138) rfl)), List.forall_mem_cons.mpr ⟨(am_in2 (List.mem_of_getElem? (i := 139) rfl)), List.forall_mem_cons.mpr ⟨(am_in4 (List.mem_of_getElem? (i := 151) rfl)), List.forall_mem_cons.mpr ⟨(am_in2 (List.mem_of_getElem? (i := 143) rfl)), List.forall_mem_cons.mpr ⟨(am_in4 (List.mem_of_getElem? (i := 155) rfl)), List.forall_mem_cons.mpr ⟨(am_in2 (List.mem_of_getElem? (i := 154) rfl)), List.forall_mem_cons.mpr ⟨(am_in4 (List.mem_of_getElem? (i := 159) rfl)), List.forall_mem_cons.mpr ⟨(am_in2 (List.mem_of_getElem? (i := 163) rfl)), List.forall_mem_cons.mpr ⟨(am_in4 (List.mem_of_getElem? (i := 167) rfl)), fun _ h => absurd h List.not_mem_nil⟩⟩⟩⟩⟩⟩⟩⟩⟩⟩⟩⟩
def am_ML_14 : List (Nat × Nat × Nat) := [(13, 78, 60), (13, 81, 159), (13, 82, 61), (13, 85, 160), (13, 86, 62), (13, 89, 164), (13, 90, 63), (13, 93, 165), (13, 94, 64), (13, 97, 166), (13, 98, 65), (13, 101, 169)]
set_option maxRecDepth 20000 in
theorem am_ML_14k : ∀ q ∈ am_ML_14, Cond.methodLink (am_cn q.1) q.2.1 (am_nm q.2.2) ∈ lw_tbl := List.forall_mem_cons.mpr ⟨(am_in2 (List.mem_of_getElem? (i := 172) rfl)), List.forall_mem_cons.mpr ⟨(am_in4 (List.mem_of_getElem? (i := 175) rfl)), List.forall_mem_cons.mpr ⟨(am_in2 (List.mem_of_getElem? (i := 203) rfl)), List.forall_mem_cons.mpr ⟨(am_in4 (List.mem_of_getElem? (i := 199) rfl)), List.forall_mem_cons.mpr ⟨(am_in2 (List.mem_of_getElem? (i := 207) rfl)), List.forall_mem_cons.mpr ⟨(am_in4 (List.mem_of_getElem? (i := 203) rfl)), List.forall_mem_cons.mpr ⟨(am_in2 (List.mem_of_getElem? (i := 215) rfl)), List.forall_mem_cons.mpr ⟨(am_in4 (List.mem_of_getElem? (i := 219) rfl)), List.forall_mem_cons.mpr ⟨(am_in2 (List.mem_of_getElem? (i := 219) rfl)), List.forall_mem_cons.mpr ⟨(am_in4 (List.mem_of_getElem? (i := 223) rfl)), List.forall_mem_cons.mpr ⟨(am_in2 (List.mem_of_getElem? (i := 223) rfl)), List.forall_mem_cons.mpr ⟨(am_in4 (List.mem_of_getElem? (i := 227) rfl)), fun _ h => absurd h List.not_mem_nil⟩⟩⟩⟩⟩⟩⟩⟩⟩⟩⟩⟩
def am_ML_15 : List (Nat × Nat × Nat) := [(13, 102, 66), (13, 105, 173), (13, 106, 67), (13, 109, 174), (13, 110, 68), (13, 113, 175), (13, 114, 69), (13, 117, 179), (13, 118, 70), (13, 121, 180), (13, 122, 71), (13, 125, 182)]
set_option maxRecDepth 20000 in
theorem am_ML_15k : ∀ q ∈ am_ML_15, Cond.methodLink (am_cn q.1) q.2.1 (am_nm q.2.2) ∈ lw_tbl := List.forall_mem_cons.mpr ⟨(am_in2 (List.mem_of_getElem? (i := 231) rfl)), List.forall_mem_cons.mpr ⟨(am_in4 (List.mem_of_getElem? (i := 239) rfl)), List.forall_mem_cons.mpr ⟨(am_in3 (List.mem_of_getElem? (i := 16) rfl)), List.forall_mem_cons.mpr ⟨(am_in5 (List.mem_of_getElem? (i := 16) rfl)), List.forall_mem_cons.mpr ⟨(am_in3 (List.mem_of_getElem? (i := 20) rfl)), List.forall_mem_cons.mpr ⟨(am_in5 (List.mem_of_getElem? (i := 20) rfl)), List.forall_mem_cons.mpr ⟨(am_in3 (List.mem_of_getElem? (i := 25) rfl)), List.forall_mem_cons.mpr ⟨(am_in5 (List.mem_of_getElem? (i := 24) rfl)), List.forall_mem_cons.mpr ⟨(am_in3 (List.mem_of_getElem? (i := 42) rfl)), List.forall_mem_cons.mpr ⟨(am_in5 (List.mem_of_getElem? (i := 40) rfl)), List.forall_mem_cons.mpr ⟨(am_in3 (List.mem_of_getElem? (i := 47) rfl)), List.forall_mem_cons.mpr ⟨(am_in5 (List.mem_of_getElem? (i := 45) rfl)), fun _ h => absurd h List.not_mem_nil⟩⟩⟩⟩⟩⟩⟩⟩⟩⟩⟩⟩
def am_ML_16 : List (Nat × Nat × Nat) := [(13, 126, 72), (13, 129, 184), (13, 130, 73), (13, 133, 114), (13, 134, 74), (13, 137, 115), (13, 138, 75), (13, 141, 118), (13, 142, 76), (13, 145, 119), (13, 146, 77), (13, 150, 120)]
set_option maxRecDepth 20000 in
theorem am_ML_16k : ∀ q ∈ am_ML_16, Cond.methodLink (am_cn q.1) q.2.1 (am_nm q.2.2) ∈ lw_tbl := List.forall_mem_cons.mpr ⟨(am_in3 (List.mem_of_getElem? (i := 51) rfl)), List.forall_mem_cons.mpr ⟨(am_in5 (List.mem_of_getElem? (i := 54) rfl)), List.forall_mem_cons.mpr ⟨(am_in3 (List.mem_of_getElem? (i := 55) rfl)), List.forall_mem_cons.mpr ⟨(am_in3 (List.mem_of_getElem? (i := 232) rfl)), List.forall_mem_cons.mpr ⟨(am_in3 (List.mem_of_getElem? (i := 69) rfl)), List.forall_mem_cons.mpr ⟨(am_in4 (List.mem_of_getElem? (i := 8) rfl)), List.forall_mem_cons.mpr ⟨(am_in3 (List.mem_of_getElem? (i := 73) rfl)), List.forall_mem_cons.mpr ⟨(am_in4 (List.mem_of_getElem? (i := 12) rfl)), List.forall_mem_cons.mpr ⟨(am_in3 (List.mem_of_getElem? (i := 85) rfl)), List.forall_mem_cons.mpr ⟨(am_in4 (List.mem_of_getElem? (i := 23) rfl)), List.forall_mem_cons.mpr ⟨(am_in3 (List.mem_of_getElem? (i := 90) rfl)), List.forall_mem_cons.mpr ⟨(am_in4 (List.mem_of_getElem? (i := 28) rfl)), fun _ h => absurd h List.not_mem_nil⟩⟩⟩⟩⟩⟩⟩⟩⟩⟩⟩⟩
def am_ML_17 : List (Nat × Nat × Nat) := [(13, 151, 78), (13, 154, 185), (13, 155, 79), (13, 158, 188), (13, 159, 80), (13, 163, 191)]
set_option maxRecDepth 20000 in
theorem am_ML_17k : ∀ q ∈ am_ML_17, Cond.methodLink (am_cn q.1) q.2.1 (am_nm q.2.2) ∈ lw_tbl := List.forall_mem_cons.mpr ⟨(am_in3 (List.mem_of_getElem? (i := 99) rfl)), List.forall_mem_cons.mpr ⟨(am_in5 (List.mem_of_getElem? (i := 62) rfl)), List.forall_mem_cons.mpr ⟨(am_in3 (List.mem_of_getElem? (i := 106) rfl)), List.forall_mem_cons.mpr ⟨(am_in5 (List.mem_of_getElem? (i := 69) rfl)), List.forall_mem_cons.mpr ⟨(am_in3 (List.mem_of_getElem? (i := 120) rfl)), List.forall_mem_cons.mpr ⟨(am_in5 (List.mem_of_getElem? (i := 81) rfl)), fun _ h => absurd h List.not_mem_nil⟩⟩⟩⟩⟩⟩
def am_ML : List (Nat × Nat × Nat) := am_ML_0 ++ (am_ML_1 ++ (am_ML_2 ++ (am_ML_3 ++ (am_ML_4 ++ (am_ML_5 ++ (am_ML_6 ++ (am_ML_7 ++ (am_ML_8 ++ (am_ML_9 ++ (am_ML_10 ++ (am_ML_11 ++ (am_ML_12 ++ (am_ML_13 ++ (am_ML_14 ++ (am_ML_15 ++ (am_ML_16 ++ (am_ML_17)))))))))))))))))
theorem am_ML_ok : ∀ q ∈ am_ML, Cond.methodLink (am_cn q.1) q.2.1 (am_nm q.2.2) ∈ lw_tbl := List.forall_mem_append.mpr ⟨am_ML_0k, List.forall_mem_append.mpr ⟨am_ML_1k, List.forall_mem_append.mpr ⟨am_ML_2k, List.forall_mem_append.mpr ⟨am_ML_3k, List.forall_mem_append.mpr ⟨am_ML_4k, List.forall_mem_append.mpr ⟨am_ML_5k, List.forall_mem_append.mpr ⟨am_ML_6k, List.forall_mem_append.mpr ⟨am_ML_7k, List.forall_mem_append.mpr ⟨am_ML_8k, List.forall_mem_append.mpr ⟨am_ML_9k, List.forall_mem_append.mpr ⟨am_ML_10k, List.forall_mem_append.mpr ⟨am_ML_11k, List.forall_mem_append.mpr ⟨am_ML_12k, List.forall_mem_append.mpr ⟨am_ML_13k, List.forall_mem_append.mpr ⟨am_ML_14k, List.forall_mem_append.mpr ⟨am_ML_15k, List.forall_mem_append.mpr ⟨am_ML_16k, am_ML_17k⟩⟩⟩⟩⟩⟩⟩⟩⟩⟩⟩⟩⟩⟩⟩⟩⟩
def am_MN_0 : List (Nat × Nat × Nat) := [(7, 9, 28), (7, 55, 37), (7, 79, 19), (7, 80, 27), (7, 81, 22)]
set_option maxRecDepth 20000 in
theorem am_MN_0k : ∀ q ∈ am_MN_0, Cond.methodLinkNest (am_cn q.1) q.2.1 (am_nm q.2.2) "WordTerminator" ∈ lw_tbl := List.forall_mem_cons.mpr ⟨(am_in1 (List.mem_of_getElem? (i := 24) rfl)), List.forall_mem_cons.mpr ⟨(am_in1 (List.mem_of_getElem? (i := 87) rfl)), List.forall_mem_cons.mpr ⟨(am_in1 (List.mem_of_getElem? (i := 103) rfl)), List.forall_mem_cons.mpr ⟨(am_in1 (List.mem_of_getElem? (i := 127) rfl)), List.forall_mem_cons.mpr ⟨(am_in1 (List.mem_of_getElem? (i := 143) rfl)), fun _ h => absurd h List.not_mem_nil⟩⟩⟩⟩⟩
def am_MN : List (Nat × Nat × Nat) := am_MN_0
theorem am_MN_ok : ∀ q ∈ am_MN, Cond.methodLinkNest (am_cn q.1) q.2.1 (am_nm q.2.2) "WordTerminator" ∈ lw_tbl := am_MN_0k
def am_OI_0 : List (Nat × Nat) := [(0, 3), (1, 3), (2, 3), (3, 3), (4, 1), (5, 3), (6, 3), (7, 1), (8, 1)]
set_option maxRecDepth 20000 in
theorem am_OI_0k : ∀ q ∈ am_OI_0, Cond.methodLink (am_cn q.1) q.2 objectInit ∈ lw_tbl := List.forall_mem_cons.mpr ⟨(am_in1 (List.mem_of_getElem? (i := 70) rfl)), List.forall_mem_cons.mpr ⟨(am_in1 (List.mem_of_getElem? (i := 43) rfl)), List.forall_mem_cons.mpr ⟨(am_in1 (List.mem_of_getElem? (i := 106) rfl)), List.forall_mem_cons.mpr ⟨(am_in1 (List.mem_of_getElem? (i := 146) rfl)), List.forall_mem_cons.mpr ⟨(am_in1 (List.mem_of_getElem? (i := 130) rfl)), List.forall_mem_cons.mpr ⟨(am_in1 (List.mem_of_getElem? (i := 27) rfl)), List.forall_mem_cons.mpr ⟨(am_in1 (List.mem_of_getElem? (i := 90) rfl)), List.forall_mem_cons.mpr ⟨(am_in1 (List.mem_of_getElem? (i := 19) rfl)), List.forall_mem_cons.mpr ⟨(am_in3 (List.mem_of_getElem? (i := 154) rfl)), fun _ h => absurd h List.not_mem_nil⟩⟩⟩⟩⟩⟩⟩⟩⟩
def am_OI : List (Nat × Nat) := am_OI_0
theorem am_OI_ok : ∀ q ∈ am_OI, Cond.methodLink (am_cn q.1) q.2 objectInit ∈ lw_tbl := am_OI_0k
def am_AC_0 : List (Nat × Nat) := [(0, 22), (1, 29), (7, 262)]
set_option maxRecDepth 20000 in
theorem am_AC_0k : ∀ q ∈ am_AC_0, Cond.methodLink (am_cn q.1) q.2 arraycopyName ∈ lw_tbl := List.forall_mem_cons.mpr ⟨(am_in2 (List.mem_of_getElem? (i := 200) rfl)), List.forall_mem_cons.mpr ⟨(am_in3 (List.mem_of_getElem? (i := 41) rfl)), List.forall_mem_cons.mpr ⟨(am_in3 (List.mem_of_getElem? (i := 98) rfl)), fun _ h => absurd h List.not_mem_nil⟩⟩⟩
def am_AC : List (Nat × Nat) := am_AC_0
theorem am_AC_ok : ∀ q ∈ am_AC, Cond.methodLink (am_cn q.1) q.2 arraycopyName ∈ lw_tbl := am_AC_0k
def am_MX_0 : List (Nat × Nat) := [(1, 15)]
set_option maxRecDepth 20000 in
theorem am_MX_0k : ∀ q ∈ am_MX_0, Cond.methodLink (am_cn q.1) q.2 Lib.Math.max.name ∈ lw_tbl := List.forall_mem_cons.mpr ⟨(am_in1 (List.mem_of_getElem? (i := 44) rfl)), fun _ h => absurd h List.not_mem_nil⟩
def am_MX : List (Nat × Nat) := am_MX_0
theorem am_MX_ok : ∀ q ∈ am_MX, Cond.methodLink (am_cn q.1) q.2 Lib.Math.max.name ∈ lw_tbl := am_MX_0k
def am_MM_0 : List (Nat × Nat) := [(7, 268)]
set_option maxRecDepth 20000 in
theorem am_MM_0k : ∀ q ∈ am_MM_0, Cond.methodLink (am_cn q.1) q.2 Lib.Math.min.name ∈ lw_tbl := List.forall_mem_cons.mpr ⟨(am_in3 (List.mem_of_getElem? (i := 103) rfl)), fun _ h => absurd h List.not_mem_nil⟩
def am_MM : List (Nat × Nat) := am_MM_0
theorem am_MM_ok : ∀ q ∈ am_MM, Cond.methodLink (am_cn q.1) q.2 Lib.Math.min.name ∈ lw_tbl := am_MM_0k
def am_CI_0 : List (Nat × Nat × Int) := [(7, 257, -2147483648), (0, 40, 2147483647), (8, 93, -2147483648), (9, 265, 1431655765), (9, 266, 858993459), (9, 267, 252645135)]
set_option maxRecDepth 20000 in
theorem am_CI_0k : ∀ q ∈ am_CI_0, Cond.constant (am_cn q.1) q.2.1 (Int32.ofInt q.2.2) ∈ lw_tbl := List.forall_mem_cons.mpr ⟨(am_in3 (List.mem_of_getElem? (i := 89) rfl)), List.forall_mem_cons.mpr ⟨(am_in2 (List.mem_of_getElem? (i := 95) rfl)), List.forall_mem_cons.mpr ⟨(am_in4 (List.mem_of_getElem? (i := 27) rfl)), List.forall_mem_cons.mpr ⟨(am_in3 (List.mem_of_getElem? (i := 113) rfl)), List.forall_mem_cons.mpr ⟨(am_in3 (List.mem_of_getElem? (i := 114) rfl)), List.forall_mem_cons.mpr ⟨(am_in3 (List.mem_of_getElem? (i := 115) rfl)), fun _ h => absurd h List.not_mem_nil⟩⟩⟩⟩⟩⟩
def am_CI : List (Nat × Nat × Int) := am_CI_0
theorem am_CI_ok : ∀ q ∈ am_CI, Cond.constant (am_cn q.1) q.2.1 (Int32.ofInt q.2.2) ∈ lw_tbl := am_CI_0k
def am_CJ_0 : List (Nat × Nat × Int) := [(7, 284, 17), (7, 334, 31), (6, 55, 2147483647), (8, 73, 3), (8, 79, 2), (8, 94, 4), (8, 102, 255), (8, 107, 97), (8, 135, -1), (8, 137, 5), (8, 153, 2147483647), (8, 185, 999)]
set_option maxRecDepth 20000 in
theorem am_CJ_0k : ∀ q ∈ am_CJ_0, Cond.constantLong (am_cn q.1) q.2.1 (Int64.ofInt q.2.2) ∈ lw_tbl := List.forall_mem_cons.mpr ⟨(am_in3 (List.mem_of_getElem? (i := 124) rfl)), List.forall_mem_cons.mpr ⟨(am_in3 (List.mem_of_getElem? (i := 129) rfl)), List.forall_mem_cons.mpr ⟨(am_in2 (List.mem_of_getElem? (i := 82) rfl)), List.forall_mem_cons.mpr ⟨(am_in3 (List.mem_of_getElem? (i := 239) rfl)), List.forall_mem_cons.mpr ⟨(am_in4 (List.mem_of_getElem? (i := 3) rfl)), List.forall_mem_cons.mpr ⟨(am_in4 (List.mem_of_getElem? (i := 36) rfl)), List.forall_mem_cons.mpr ⟨(am_in4 (List.mem_of_getElem? (i := 41) rfl)), List.forall_mem_cons.mpr ⟨(am_in4 (List.mem_of_getElem? (i := 58) rfl)), List.forall_mem_cons.mpr ⟨(am_in4 (List.mem_of_getElem? (i := 85) rfl)), List.forall_mem_cons.mpr ⟨(am_in4 (List.mem_of_getElem? (i := 86) rfl)), List.forall_mem_cons.mpr ⟨(am_in4 (List.mem_of_getElem? (i := 118) rfl)), List.forall_mem_cons.mpr ⟨(am_in4 (List.mem_of_getElem? (i := 146) rfl)), fun _ h => absurd h List.not_mem_nil⟩⟩⟩⟩⟩⟩⟩⟩⟩⟩⟩⟩
def am_CJ_1 : List (Nat × Nat × Int) := [(8, 228, 9), (8, 245, 40), (8, 247, 23), (8, 264, 31), (8, 266, 17)]
set_option maxRecDepth 20000 in
theorem am_CJ_1k : ∀ q ∈ am_CJ_1, Cond.constantLong (am_cn q.1) q.2.1 (Int64.ofInt q.2.2) ∈ lw_tbl := List.forall_mem_cons.mpr ⟨(am_in5 (List.mem_of_getElem? (i := 3) rfl)), List.forall_mem_cons.mpr ⟨(am_in5 (List.mem_of_getElem? (i := 44) rfl)), List.forall_mem_cons.mpr ⟨(am_in5 (List.mem_of_getElem? (i := 49) rfl)), List.forall_mem_cons.mpr ⟨(am_in5 (List.mem_of_getElem? (i := 86) rfl)), List.forall_mem_cons.mpr ⟨(am_in5 (List.mem_of_getElem? (i := 85) rfl)), fun _ h => absurd h List.not_mem_nil⟩⟩⟩⟩⟩
def am_CJ : List (Nat × Nat × Int) := am_CJ_0 ++ (am_CJ_1)
theorem am_CJ_ok : ∀ q ∈ am_CJ, Cond.constantLong (am_cn q.1) q.2.1 (Int64.ofInt q.2.2) ∈ lw_tbl := List.forall_mem_append.mpr ⟨am_CJ_0k, am_CJ_1k⟩
def am_CK_0 : List (Nat × Nat × Nat) := [(7, 7, 5), (7, 16, 1), (7, 25, 2), (7, 31, 4), (7, 37, 3), (7, 43, 0), (7, 53, 6), (2, 9, 1), (4, 7, 0), (13, 7, 7), (13, 10, 8)]
set_option maxRecDepth 20000 in
theorem am_CK_0k : ∀ q ∈ am_CK_0, Cond.classLink (am_cn q.1) q.2.1 (am_cn q.2.2) ∈ lw_tbl := List.forall_mem_cons.mpr ⟨(am_in1 (List.mem_of_getElem? (i := 22) rfl)), List.forall_mem_cons.mpr ⟨(am_in1 (List.mem_of_getElem? (i := 38) rfl)), List.forall_mem_cons.mpr ⟨(am_in1 (List.mem_of_getElem? (i := 59) rfl)), List.forall_mem_cons.mpr ⟨(am_in1 (List.mem_of_getElem? (i := 61) rfl)), List.forall_mem_cons.mpr ⟨(am_in1 (List.mem_of_getElem? (i := 63) rfl)), List.forall_mem_cons.mpr ⟨(am_in1 (List.mem_of_getElem? (i := 65) rfl)), List.forall_mem_cons.mpr ⟨(am_in1 (List.mem_of_getElem? (i := 85) rfl)), List.forall_mem_cons.mpr ⟨(am_in1 (List.mem_of_getElem? (i := 107) rfl)), List.forall_mem_cons.mpr ⟨(am_in1 (List.mem_of_getElem? (i := 131) rfl)), List.forall_mem_cons.mpr ⟨(am_in1 (List.mem_of_getElem? (i := 14) rfl)), List.forall_mem_cons.mpr ⟨(am_in3 (List.mem_of_getElem? (i := 149) rfl)), fun _ h => absurd h List.not_mem_nil⟩⟩⟩⟩⟩⟩⟩⟩⟩⟩⟩
def am_CK : List (Nat × Nat × Nat) := am_CK_0
theorem am_CK_ok : ∀ q ∈ am_CK, Cond.classLink (am_cn q.1) q.2.1 (am_cn q.2.2) ∈ lw_tbl := am_CK_0k
/-- a method's words: code, initialized; instance: selects; static -/
def am_MO (m : Nat) : Prop := Cond.code (am_nm m) (am_by m) (am_ml m) (am_rt m) ∈ lw_tbl ∧ Cond.initialized (am_cn (am_oc m)) ∈ lw_tbl ∧ (am_mk m = 0 → Cond.instanceMethod (am_nm m) ∈ lw_tbl ∧ Cond.selects (am_cn (am_oc m)) (am_nm m) (am_nm m) ∈ lw_tbl) ∧ (am_mk m = 1 → Cond.static (am_nm m) ∈ lw_tbl) ∧ (am_mk m = 2 → Cond.instanceMethod (am_nm m) ∈ lw_tbl)
set_option maxRecDepth 20000 in
theorem am_mo0 : am_MO 0 := ⟨(am_in1 (List.mem_of_getElem? (i := 69) rfl)), (am_in1 (List.mem_of_getElem? (i := 5) rfl)), fun h => absurd h (by decide), fun h => absurd h (by decide), fun _ => (am_in1 (List.mem_of_getElem? (i := 68) rfl))⟩
set_option maxRecDepth 20000 in
theorem am_mo1 : am_MO 1 := ⟨(am_in2 (List.mem_of_getElem? (i := 199) rfl)), (am_in1 (List.mem_of_getElem? (i := 5) rfl)), fun _ => ⟨(am_in2 (List.mem_of_getElem? (i := 197) rfl)), (am_in2 (List.mem_of_getElem? (i := 198) rfl))⟩, fun h => absurd h (by decide), fun h => absurd h (by decide)⟩
set_option maxRecDepth 20000 in
theorem am_mo2 : am_MO 2 := ⟨(am_in2 (List.mem_of_getElem? (i := 134) rfl)), (am_in1 (List.mem_of_getElem? (i := 5) rfl)), fun _ => ⟨(am_in2 (List.mem_of_getElem? (i := 132) rfl)), (am_in2 (List.mem_of_getElem? (i := 133) rfl))⟩, fun h => absurd h (by decide), fun h => absurd h (by decide)⟩
set_option maxRecDepth 20000 in
theorem am_mo3 : am_MO 3 := ⟨(am_in2 (List.mem_of_getElem? (i := 138) rfl)), (am_in1 (List.mem_of_getElem? (i := 5) rfl)), fun _ => ⟨(am_in2 (List.mem_of_getElem? (i := 136) rfl)), (am_in2 (List.mem_of_getElem? (i := 137) rfl))⟩, fun h => absurd h (by decide), fun h => absurd h (by decide)⟩
set_option maxRecDepth 20000 in
theorem am_mo4 : am_MO 4 := ⟨(am_in2 (List.mem_of_getElem? (i := 170) rfl)), (am_in1 (List.mem_of_getElem? (i := 5) rfl)), fun _ => ⟨(am_in2 (List.mem_of_getElem? (i := 168) rfl)), (am_in2 (List.mem_of_getElem? (i := 169) rfl))⟩, fun h => absurd h (by decide), fun h => absurd h (by decide)⟩
set_option maxRecDepth 20000 in
theorem am_mo5 : am_MO 5 := ⟨(am_in2 (List.mem_of_getElem? (i := 161) rfl)), (am_in1 (List.mem_of_getElem? (i := 5) rfl)), fun _ => ⟨(am_in2 (List.mem_of_getElem? (i := 159) rfl)), (am_in2 (List.mem_of_getElem? (i := 160) rfl))⟩, fun h => absurd h (by decide), fun h => absurd h (by decide)⟩
set_option maxRecDepth 20000 in
theorem am_mo6 : am_MO 6 := ⟨(am_in3 (List.mem_of_getElem? (i := 6) rfl)), (am_in1 (List.mem_of_getElem? (i := 5) rfl)), fun _ => ⟨(am_in3 (List.mem_of_getElem? (i := 4) rfl)), (am_in3 (List.mem_of_getElem? (i := 5) rfl))⟩, fun h => absurd h (by decide), fun h => absurd h (by decide)⟩
set_option maxRecDepth 20000 in
theorem am_mo7 : am_MO 7 := ⟨(am_in3 (List.mem_of_getElem? (i := 15) rfl)), (am_in1 (List.mem_of_getElem? (i := 5) rfl)), fun _ => ⟨(am_in3 (List.mem_of_getElem? (i := 13) rfl)), (am_in3 (List.mem_of_getElem? (i := 14) rfl))⟩, fun h => absurd h (by decide), fun h => absurd h (by decide)⟩
set_option maxRecDepth 20000 in
theorem am_mo8 : am_MO 8 := ⟨(am_in3 (List.mem_of_getElem? (i := 10) rfl)), (am_in1 (List.mem_of_getElem? (i := 5) rfl)), fun _ => ⟨(am_in3 (List.mem_of_getElem? (i := 9) rfl)), (am_in0 (List.mem_of_getElem? (i := 18) rfl))⟩, fun h => absurd h (by decide), fun h => absurd h (by decide)⟩
set_option maxRecDepth 20000 in
theorem am_mo9 : am_MO 9 := ⟨(am_in2 (List.mem_of_getElem? (i := 94) rfl)), (am_in1 (List.mem_of_getElem? (i := 5) rfl)), fun _ => ⟨(am_in2 (List.mem_of_getElem? (i := 92) rfl)), (am_in2 (List.mem_of_getElem? (i := 93) rfl))⟩, fun h => absurd h (by decide), fun h => absurd h (by decide)⟩
set_option maxRecDepth 20000 in
theorem am_mo10 : am_MO 10 := ⟨(am_in2 (List.mem_of_getElem? (i := 77) rfl)), (am_in1 (List.mem_of_getElem? (i := 5) rfl)), fun _ => ⟨(am_in2 (List.mem_of_getElem? (i := 75) rfl)), (am_in2 (List.mem_of_getElem? (i := 76) rfl))⟩, fun h => absurd h (by decide), fun h => absurd h (by decide)⟩
set_option maxRecDepth 20000 in
theorem am_mo11 : am_MO 11 := ⟨(am_in2 (List.mem_of_getElem? (i := 81) rfl)), (am_in1 (List.mem_of_getElem? (i := 5) rfl)), fun _ => ⟨(am_in2 (List.mem_of_getElem? (i := 79) rfl)), (am_in2 (List.mem_of_getElem? (i := 80) rfl))⟩, fun h => absurd h (by decide), fun h => absurd h (by decide)⟩
set_option maxRecDepth 20000 in
theorem am_mo12 : am_MO 12 := ⟨(am_in1 (List.mem_of_getElem? (i := 42) rfl)), (am_in1 (List.mem_of_getElem? (i := 3) rfl)), fun h => absurd h (by decide), fun h => absurd h (by decide), fun _ => (am_in1 (List.mem_of_getElem? (i := 41) rfl))⟩
set_option maxRecDepth 20000 in
theorem am_mo13 : am_MO 13 := ⟨(am_in2 (List.mem_of_getElem? (i := 19) rfl)), (am_in1 (List.mem_of_getElem? (i := 3) rfl)), fun _ => ⟨(am_in2 (List.mem_of_getElem? (i := 17) rfl)), (am_in2 (List.mem_of_getElem? (i := 18) rfl))⟩, fun h => absurd h (by decide), fun h => absurd h (by decide)⟩
set_option maxRecDepth 20000 in
theorem am_mo14 : am_MO 14 := ⟨(am_in2 (List.mem_of_getElem? (i := 46) rfl)), (am_in1 (List.mem_of_getElem? (i := 3) rfl)), fun _ => ⟨(am_in2 (List.mem_of_getElem? (i := 44) rfl)), (am_in2 (List.mem_of_getElem? (i := 45) rfl))⟩, fun h => absurd h (by decide), fun h => absurd h (by decide)⟩
set_option maxRecDepth 20000 in
theorem am_mo15 : am_MO 15 := ⟨(am_in2 (List.mem_of_getElem? (i := 107) rfl)), (am_in1 (List.mem_of_getElem? (i := 3) rfl)), fun _ => ⟨(am_in2 (List.mem_of_getElem? (i := 105) rfl)), (am_in2 (List.mem_of_getElem? (i := 106) rfl))⟩, fun h => absurd h (by decide), fun h => absurd h (by decide)⟩
set_option maxRecDepth 20000 in
theorem am_mo16 : am_MO 16 := ⟨(am_in3 (List.mem_of_getElem? (i := 32) rfl)), (am_in1 (List.mem_of_getElem? (i := 3) rfl)), fun _ => ⟨(am_in3 (List.mem_of_getElem? (i := 30) rfl)), (am_in3 (List.mem_of_getElem? (i := 31) rfl))⟩, fun h => absurd h (by decide), fun h => absurd h (by decide)⟩
set_option maxRecDepth 20000 in
theorem am_mo17 : am_MO 17 := ⟨(am_in2 (List.mem_of_getElem? (i := 103) rfl)), (am_in1 (List.mem_of_getElem? (i := 3) rfl)), fun _ => ⟨(am_in2 (List.mem_of_getElem? (i := 101) rfl)), (am_in2 (List.mem_of_getElem? (i := 102) rfl))⟩, fun h => absurd h (by decide), fun h => absurd h (by decide)⟩
set_option maxRecDepth 20000 in
theorem am_mo18 : am_MO 18 := ⟨(am_in3 (List.mem_of_getElem? (i := 40) rfl)), (am_in1 (List.mem_of_getElem? (i := 3) rfl)), fun _ => ⟨(am_in3 (List.mem_of_getElem? (i := 38) rfl)), (am_in3 (List.mem_of_getElem? (i := 39) rfl))⟩, fun h => absurd h (by decide), fun h => absurd h (by decide)⟩
set_option maxRecDepth 20000 in
theorem am_mo19 : am_MO 19 := ⟨(am_in1 (List.mem_of_getElem? (i := 105) rfl)), (am_in1 (List.mem_of_getElem? (i := 7) rfl)), fun h => absurd h (by decide), fun h => absurd h (by decide), fun _ => (am_in1 (List.mem_of_getElem? (i := 104) rfl))⟩
set_option maxRecDepth 20000 in
theorem am_mo20 : am_MO 20 := ⟨(am_in2 (List.mem_of_getElem? (i := 42) rfl)), (am_in1 (List.mem_of_getElem? (i := 7) rfl)), fun _ => ⟨(am_in2 (List.mem_of_getElem? (i := 40) rfl)), (am_in2 (List.mem_of_getElem? (i := 41) rfl))⟩, fun h => absurd h (by decide), fun h => absurd h (by decide)⟩
set_option maxRecDepth 20000 in
theorem am_mo21 : am_MO 21 := ⟨(am_in2 (List.mem_of_getElem? (i := 7) rfl)), (am_in1 (List.mem_of_getElem? (i := 7) rfl)), fun _ => ⟨(am_in2 (List.mem_of_getElem? (i := 5) rfl)), (am_in2 (List.mem_of_getElem? (i := 6) rfl))⟩, fun h => absurd h (by decide), fun h => absurd h (by decide)⟩
set_option maxRecDepth 20000 in
theorem am_mo22 : am_MO 22 := ⟨(am_in1 (List.mem_of_getElem? (i := 145) rfl)), (am_in1 (List.mem_of_getElem? (i := 9) rfl)), fun h => absurd h (by decide), fun h => absurd h (by decide), fun _ => (am_in1 (List.mem_of_getElem? (i := 144) rfl))⟩
set_option maxRecDepth 20000 in
theorem am_mo23 : am_MO 23 := ⟨(am_in3 (List.mem_of_getElem? (i := 65) rfl)), (am_in1 (List.mem_of_getElem? (i := 9) rfl)), fun _ => ⟨(am_in3 (List.mem_of_getElem? (i := 63) rfl)), (am_in3 (List.mem_of_getElem? (i := 64) rfl))⟩, fun h => absurd h (by decide), fun h => absurd h (by decide)⟩
set_option maxRecDepth 20000 in
theorem am_mo24 : am_MO 24 := ⟨(am_in3 (List.mem_of_getElem? (i := 80) rfl)), (am_in1 (List.mem_of_getElem? (i := 9) rfl)), fun _ => ⟨(am_in3 (List.mem_of_getElem? (i := 78) rfl)), (am_in3 (List.mem_of_getElem? (i := 79) rfl))⟩, fun h => absurd h (by decide), fun h => absurd h (by decide)⟩
set_option maxRecDepth 20000 in
theorem am_mo25 : am_MO 25 := ⟨(am_in3 (List.mem_of_getElem? (i := 97) rfl)), (am_in1 (List.mem_of_getElem? (i := 9) rfl)), fun _ => ⟨(am_in3 (List.mem_of_getElem? (i := 95) rfl)), (am_in3 (List.mem_of_getElem? (i := 96) rfl))⟩, fun h => absurd h (by decide), fun h => absurd h (by decide)⟩
set_option maxRecDepth 20000 in
theorem am_mo26 : am_MO 26 := ⟨(am_in3 (List.mem_of_getElem? (i := 84) rfl)), (am_in1 (List.mem_of_getElem? (i := 9) rfl)), fun _ => ⟨(am_in3 (List.mem_of_getElem? (i := 82) rfl)), (am_in3 (List.mem_of_getElem? (i := 83) rfl))⟩, fun h => absurd h (by decide), fun h => absurd h (by decide)⟩
set_option maxRecDepth 20000 in
theorem am_mo27 : am_MO 27 := ⟨(am_in1 (List.mem_of_getElem? (i := 129) rfl)), (am_in1 (List.mem_of_getElem? (i := 8) rfl)), fun h => absurd h (by decide), fun h => absurd h (by decide), fun _ => (am_in1 (List.mem_of_getElem? (i := 128) rfl))⟩
set_option maxRecDepth 20000 in
theorem am_mo28 : am_MO 28 := ⟨(am_in1 (List.mem_of_getElem? (i := 26) rfl)), (am_in1 (List.mem_of_getElem? (i := 2) rfl)), fun h => absurd h (by decide), fun h => absurd h (by decide), fun _ => (am_in1 (List.mem_of_getElem? (i := 25) rfl))⟩
set_option maxRecDepth 20000 in
theorem am_mo29 : am_MO 29 := ⟨(am_in1 (List.mem_of_getElem? (i := 214) rfl)), (am_in1 (List.mem_of_getElem? (i := 2) rfl)), fun _ => ⟨(am_in1 (List.mem_of_getElem? (i := 212) rfl)), (am_in1 (List.mem_of_getElem? (i := 213) rfl))⟩, fun h => absurd h (by decide), fun h => absurd h (by decide)⟩
set_option maxRecDepth 20000 in
theorem am_mo30 : am_MO 30 := ⟨(am_in1 (List.mem_of_getElem? (i := 236) rfl)), (am_in1 (List.mem_of_getElem? (i := 2) rfl)), fun _ => ⟨(am_in1 (List.mem_of_getElem? (i := 234) rfl)), (am_in1 (List.mem_of_getElem? (i := 235) rfl))⟩, fun h => absurd h (by decide), fun h => absurd h (by decide)⟩
set_option maxRecDepth 20000 in
theorem am_mo31 : am_MO 31 := ⟨(am_in1 (List.mem_of_getElem? (i := 226) rfl)), (am_in1 (List.mem_of_getElem? (i := 2) rfl)), fun _ => ⟨(am_in1 (List.mem_of_getElem? (i := 224) rfl)), (am_in1 (List.mem_of_getElem? (i := 225) rfl))⟩, fun h => absurd h (by decide), fun h => absurd h (by decide)⟩
set_option maxRecDepth 20000 in
theorem am_mo32 : am_MO 32 := ⟨(am_in2 (List.mem_of_getElem? (i := 11) rfl)), (am_in1 (List.mem_of_getElem? (i := 2) rfl)), fun _ => ⟨(am_in2 (List.mem_of_getElem? (i := 9) rfl)), (am_in2 (List.mem_of_getElem? (i := 10) rfl))⟩, fun h => absurd h (by decide), fun h => absurd h (by decide)⟩
set_option maxRecDepth 20000 in
theorem am_mo33 : am_MO 33 := ⟨(am_in2 (List.mem_of_getElem? (i := 23) rfl)), (am_in1 (List.mem_of_getElem? (i := 2) rfl)), fun _ => ⟨(am_in2 (List.mem_of_getElem? (i := 21) rfl)), (am_in2 (List.mem_of_getElem? (i := 22) rfl))⟩, fun h => absurd h (by decide), fun h => absurd h (by decide)⟩
set_option maxRecDepth 20000 in
theorem am_mo34 : am_MO 34 := ⟨(am_in2 (List.mem_of_getElem? (i := 15) rfl)), (am_in1 (List.mem_of_getElem? (i := 2) rfl)), fun _ => ⟨(am_in2 (List.mem_of_getElem? (i := 13) rfl)), (am_in2 (List.mem_of_getElem? (i := 14) rfl))⟩, fun h => absurd h (by decide), fun h => absurd h (by decide)⟩
set_option maxRecDepth 20000 in
theorem am_mo35 : am_MO 35 := ⟨(am_in1 (List.mem_of_getElem? (i := 229) rfl)), (am_in1 (List.mem_of_getElem? (i := 2) rfl)), fun h => absurd h (by decide), fun _ => (am_in1 (List.mem_of_getElem? (i := 228) rfl)), fun h => absurd h (by decide)⟩
set_option maxRecDepth 20000 in
theorem am_mo36 : am_MO 36 := ⟨(am_in1 (List.mem_of_getElem? (i := 232) rfl)), (am_in1 (List.mem_of_getElem? (i := 2) rfl)), fun h => absurd h (by decide), fun _ => (am_in1 (List.mem_of_getElem? (i := 231) rfl)), fun h => absurd h (by decide)⟩
set_option maxRecDepth 20000 in
theorem am_mo37 : am_MO 37 := ⟨(am_in1 (List.mem_of_getElem? (i := 89) rfl)), (am_in1 (List.mem_of_getElem? (i := 6) rfl)), fun h => absurd h (by decide), fun h => absurd h (by decide), fun _ => (am_in1 (List.mem_of_getElem? (i := 88) rfl))⟩
set_option maxRecDepth 20000 in
theorem am_mo38 : am_MO 38 := ⟨(am_in2 (List.mem_of_getElem? (i := 90) rfl)), (am_in1 (List.mem_of_getElem? (i := 6) rfl)), fun _ => ⟨(am_in2 (List.mem_of_getElem? (i := 88) rfl)), (am_in2 (List.mem_of_getElem? (i := 89) rfl))⟩, fun h => absurd h (by decide), fun h => absurd h (by decide)⟩
set_option maxRecDepth 20000 in
theorem am_mo39 : am_MO 39 := ⟨(am_in2 (List.mem_of_getElem? (i := 65) rfl)), (am_in1 (List.mem_of_getElem? (i := 6) rfl)), fun _ => ⟨(am_in2 (List.mem_of_getElem? (i := 63) rfl)), (am_in2 (List.mem_of_getElem? (i := 64) rfl))⟩, fun h => absurd h (by decide), fun h => absurd h (by decide)⟩
set_option maxRecDepth 20000 in
theorem am_mo40 : am_MO 40 := ⟨(am_in2 (List.mem_of_getElem? (i := 69) rfl)), (am_in1 (List.mem_of_getElem? (i := 6) rfl)), fun _ => ⟨(am_in2 (List.mem_of_getElem? (i := 68) rfl)), (am_in0 (List.mem_of_getElem? (i := 3) rfl))⟩, fun h => absurd h (by decide), fun h => absurd h (by decide)⟩
set_option maxRecDepth 20000 in
theorem am_mo41 : am_MO 41 := ⟨(am_in2 (List.mem_of_getElem? (i := 73) rfl)), (am_in1 (List.mem_of_getElem? (i := 6) rfl)), fun _ => ⟨(am_in2 (List.mem_of_getElem? (i := 72) rfl)), (am_in0 (List.mem_of_getElem? (i := 4) rfl))⟩, fun h => absurd h (by decide), fun h => absurd h (by decide)⟩
set_option maxRecDepth 20000 in
theorem am_mo42 : am_MO 42 := ⟨(am_in2 (List.mem_of_getElem? (i := 86) rfl)), (am_in1 (List.mem_of_getElem? (i := 6) rfl)), fun _ => ⟨(am_in2 (List.mem_of_getElem? (i := 84) rfl)), (am_in2 (List.mem_of_getElem? (i := 85) rfl))⟩, fun h => absurd h (by decide), fun h => absurd h (by decide)⟩
set_option maxRecDepth 20000 in
theorem am_mo43 : am_MO 43 := ⟨(am_in2 (List.mem_of_getElem? (i := 99) rfl)), (am_in1 (List.mem_of_getElem? (i := 6) rfl)), fun _ => ⟨(am_in2 (List.mem_of_getElem? (i := 98) rfl)), (am_in0 (List.mem_of_getElem? (i := 5) rfl))⟩, fun h => absurd h (by decide), fun h => absurd h (by decide)⟩
set_option maxRecDepth 20000 in
theorem am_mo44 : am_MO 44 := ⟨(am_in1 (List.mem_of_getElem? (i := 18) rfl)), (am_in1 (List.mem_of_getElem? (i := 1) rfl)), fun h => absurd h (by decide), fun h => absurd h (by decide), fun _ => (am_in1 (List.mem_of_getElem? (i := 17) rfl))⟩
set_option maxRecDepth 20000 in
theorem am_mo45 : am_MO 45 := ⟨(am_in1 (List.mem_of_getElem? (i := 206) rfl)), (am_in1 (List.mem_of_getElem? (i := 1) rfl)), fun _ => ⟨(am_in1 (List.mem_of_getElem? (i := 204) rfl)), (am_in1 (List.mem_of_getElem? (i := 205) rfl))⟩, fun h => absurd h (by decide), fun h => absurd h (by decide)⟩
set_option maxRecDepth 20000 in
theorem am_mo46 : am_MO 46 := ⟨(am_in1 (List.mem_of_getElem? (i := 210) rfl)), (am_in1 (List.mem_of_getElem? (i := 1) rfl)), fun _ => ⟨(am_in1 (List.mem_of_getElem? (i := 208) rfl)), (am_in1 (List.mem_of_getElem? (i := 209) rfl))⟩, fun h => absurd h (by decide), fun h => absurd h (by decide)⟩
set_option maxRecDepth 20000 in
theorem am_mo47 : am_MO 47 := ⟨(am_in1 (List.mem_of_getElem? (i := 218) rfl)), (am_in1 (List.mem_of_getElem? (i := 1) rfl)), fun _ => ⟨(am_in1 (List.mem_of_getElem? (i := 216) rfl)), (am_in1 (List.mem_of_getElem? (i := 217) rfl))⟩, fun h => absurd h (by decide), fun h => absurd h (by decide)⟩
set_option maxRecDepth 20000 in
theorem am_mo48 : am_MO 48 := ⟨(am_in1 (List.mem_of_getElem? (i := 222) rfl)), (am_in1 (List.mem_of_getElem? (i := 1) rfl)), fun _ => ⟨(am_in1 (List.mem_of_getElem? (i := 220) rfl)), (am_in1 (List.mem_of_getElem? (i := 221) rfl))⟩, fun h => absurd h (by decide), fun h => absurd h (by decide)⟩
set_option maxRecDepth 20000 in
theorem am_mo49 : am_MO 49 := ⟨(am_in2 (List.mem_of_getElem? (i := 0) rfl)), (am_in1 (List.mem_of_getElem? (i := 1) rfl)), fun _ => ⟨(am_in1 (List.mem_of_getElem? (i := 238) rfl)), (am_in1 (List.mem_of_getElem? (i := 239) rfl))⟩, fun h => absurd h (by decide), fun h => absurd h (by decide)⟩
set_option maxRecDepth 20000 in
theorem am_mo50 : am_MO 50 := ⟨(am_in2 (List.mem_of_getElem? (i := 27) rfl)), (am_in1 (List.mem_of_getElem? (i := 1) rfl)), fun _ => ⟨(am_in2 (List.mem_of_getElem? (i := 25) rfl)), (am_in2 (List.mem_of_getElem? (i := 26) rfl))⟩, fun h => absurd h (by decide), fun h => absurd h (by decide)⟩
set_option maxRecDepth 20000 in
theorem am_mo51 : am_MO 51 := ⟨(am_in2 (List.mem_of_getElem? (i := 35) rfl)), (am_in1 (List.mem_of_getElem? (i := 1) rfl)), fun _ => ⟨(am_in2 (List.mem_of_getElem? (i := 33) rfl)), (am_in2 (List.mem_of_getElem? (i := 34) rfl))⟩, fun h => absurd h (by decide), fun h => absurd h (by decide)⟩
set_option maxRecDepth 20000 in
theorem am_mo52 : am_MO 52 := ⟨(am_in2 (List.mem_of_getElem? (i := 50) rfl)), (am_in1 (List.mem_of_getElem? (i := 1) rfl)), fun _ => ⟨(am_in2 (List.mem_of_getElem? (i := 48) rfl)), (am_in2 (List.mem_of_getElem? (i := 49) rfl))⟩, fun h => absurd h (by decide), fun h => absurd h (by decide)⟩
set_option maxRecDepth 20000 in
theorem am_mo53 : am_MO 53 := ⟨(am_in2 (List.mem_of_getElem? (i := 111) rfl)), (am_in1 (List.mem_of_getElem? (i := 1) rfl)), fun _ => ⟨(am_in2 (List.mem_of_getElem? (i := 109) rfl)), (am_in2 (List.mem_of_getElem? (i := 110) rfl))⟩, fun h => absurd h (by decide), fun h => absurd h (by decide)⟩
set_option maxRecDepth 20000 in
theorem am_mo54 : am_MO 54 := ⟨(am_in2 (List.mem_of_getElem? (i := 115) rfl)), (am_in1 (List.mem_of_getElem? (i := 1) rfl)), fun _ => ⟨(am_in2 (List.mem_of_getElem? (i := 113) rfl)), (am_in2 (List.mem_of_getElem? (i := 114) rfl))⟩, fun h => absurd h (by decide), fun h => absurd h (by decide)⟩
set_option maxRecDepth 20000 in
theorem am_mo55 : am_MO 55 := ⟨(am_in2 (List.mem_of_getElem? (i := 119) rfl)), (am_in1 (List.mem_of_getElem? (i := 1) rfl)), fun _ => ⟨(am_in2 (List.mem_of_getElem? (i := 117) rfl)), (am_in2 (List.mem_of_getElem? (i := 118) rfl))⟩, fun h => absurd h (by decide), fun h => absurd h (by decide)⟩
set_option maxRecDepth 20000 in
theorem am_mo56 : am_MO 56 := ⟨(am_in2 (List.mem_of_getElem? (i := 142) rfl)), (am_in1 (List.mem_of_getElem? (i := 1) rfl)), fun _ => ⟨(am_in2 (List.mem_of_getElem? (i := 140) rfl)), (am_in2 (List.mem_of_getElem? (i := 141) rfl))⟩, fun h => absurd h (by decide), fun h => absurd h (by decide)⟩
set_option maxRecDepth 20000 in
theorem am_mo57 : am_MO 57 := ⟨(am_in2 (List.mem_of_getElem? (i := 146) rfl)), (am_in1 (List.mem_of_getElem? (i := 1) rfl)), fun _ => ⟨(am_in2 (List.mem_of_getElem? (i := 144) rfl)), (am_in2 (List.mem_of_getElem? (i := 145) rfl))⟩, fun h => absurd h (by decide), fun h => absurd h (by decide)⟩
set_option maxRecDepth 20000 in
theorem am_mo58 : am_MO 58 := ⟨(am_in2 (List.mem_of_getElem? (i := 157) rfl)), (am_in1 (List.mem_of_getElem? (i := 1) rfl)), fun _ => ⟨(am_in2 (List.mem_of_getElem? (i := 155) rfl)), (am_in2 (List.mem_of_getElem? (i := 156) rfl))⟩, fun h => absurd h (by decide), fun h => absurd h (by decide)⟩
set_option maxRecDepth 20000 in
theorem am_mo59 : am_MO 59 := ⟨(am_in2 (List.mem_of_getElem? (i := 166) rfl)), (am_in1 (List.mem_of_getElem? (i := 1) rfl)), fun _ => ⟨(am_in2 (List.mem_of_getElem? (i := 164) rfl)), (am_in2 (List.mem_of_getElem? (i := 165) rfl))⟩, fun h => absurd h (by decide), fun h => absurd h (by decide)⟩
set_option maxRecDepth 20000 in
theorem am_mo60 : am_MO 60 := ⟨(am_in2 (List.mem_of_getElem? (i := 175) rfl)), (am_in1 (List.mem_of_getElem? (i := 1) rfl)), fun _ => ⟨(am_in2 (List.mem_of_getElem? (i := 173) rfl)), (am_in2 (List.mem_of_getElem? (i := 174) rfl))⟩, fun h => absurd h (by decide), fun h => absurd h (by decide)⟩
set_option maxRecDepth 20000 in
theorem am_mo61 : am_MO 61 := ⟨(am_in2 (List.mem_of_getElem? (i := 206) rfl)), (am_in1 (List.mem_of_getElem? (i := 1) rfl)), fun _ => ⟨(am_in2 (List.mem_of_getElem? (i := 204) rfl)), (am_in2 (List.mem_of_getElem? (i := 205) rfl))⟩, fun h => absurd h (by decide), fun h => absurd h (by decide)⟩
set_option maxRecDepth 20000 in
theorem am_mo62 : am_MO 62 := ⟨(am_in2 (List.mem_of_getElem? (i := 210) rfl)), (am_in1 (List.mem_of_getElem? (i := 1) rfl)), fun _ => ⟨(am_in2 (List.mem_of_getElem? (i := 208) rfl)), (am_in2 (List.mem_of_getElem? (i := 209) rfl))⟩, fun h => absurd h (by decide), fun h => absurd h (by decide)⟩
set_option maxRecDepth 20000 in
theorem am_mo63 : am_MO 63 := ⟨(am_in2 (List.mem_of_getElem? (i := 218) rfl)), (am_in1 (List.mem_of_getElem? (i := 1) rfl)), fun _ => ⟨(am_in2 (List.mem_of_getElem? (i := 216) rfl)), (am_in2 (List.mem_of_getElem? (i := 217) rfl))⟩, fun h => absurd h (by decide), fun h => absurd h (by decide)⟩
set_option maxRecDepth 20000 in
theorem am_mo64 : am_MO 64 := ⟨(am_in2 (List.mem_of_getElem? (i := 222) rfl)), (am_in1 (List.mem_of_getElem? (i := 1) rfl)), fun _ => ⟨(am_in2 (List.mem_of_getElem? (i := 220) rfl)), (am_in2 (List.mem_of_getElem? (i := 221) rfl))⟩, fun h => absurd h (by decide), fun h => absurd h (by decide)⟩
set_option maxRecDepth 20000 in
theorem am_mo65 : am_MO 65 := ⟨(am_in2 (List.mem_of_getElem? (i := 226) rfl)), (am_in1 (List.mem_of_getElem? (i := 1) rfl)), fun _ => ⟨(am_in2 (List.mem_of_getElem? (i := 224) rfl)), (am_in2 (List.mem_of_getElem? (i := 225) rfl))⟩, fun h => absurd h (by decide), fun h => absurd h (by decide)⟩
set_option maxRecDepth 20000 in
theorem am_mo66 : am_MO 66 := ⟨(am_in2 (List.mem_of_getElem? (i := 234) rfl)), (am_in1 (List.mem_of_getElem? (i := 1) rfl)), fun _ => ⟨(am_in2 (List.mem_of_getElem? (i := 232) rfl)), (am_in2 (List.mem_of_getElem? (i := 233) rfl))⟩, fun h => absurd h (by decide), fun h => absurd h (by decide)⟩
set_option maxRecDepth 20000 in
theorem am_mo67 : am_MO 67 := ⟨(am_in3 (List.mem_of_getElem? (i := 19) rfl)), (am_in1 (List.mem_of_getElem? (i := 1) rfl)), fun _ => ⟨(am_in3 (List.mem_of_getElem? (i := 17) rfl)), (am_in3 (List.mem_of_getElem? (i := 18) rfl))⟩, fun h => absurd h (by decide), fun h => absurd h (by decide)⟩
set_option maxRecDepth 20000 in
theorem am_mo68 : am_MO 68 := ⟨(am_in3 (List.mem_of_getElem? (i := 23) rfl)), (am_in1 (List.mem_of_getElem? (i := 1) rfl)), fun _ => ⟨(am_in3 (List.mem_of_getElem? (i := 21) rfl)), (am_in3 (List.mem_of_getElem? (i := 22) rfl))⟩, fun h => absurd h (by decide), fun h => absurd h (by decide)⟩
set_option maxRecDepth 20000 in
theorem am_mo69 : am_MO 69 := ⟨(am_in3 (List.mem_of_getElem? (i := 28) rfl)), (am_in1 (List.mem_of_getElem? (i := 1) rfl)), fun _ => ⟨(am_in3 (List.mem_of_getElem? (i := 26) rfl)), (am_in3 (List.mem_of_getElem? (i := 27) rfl))⟩, fun h => absurd h (by decide), fun h => absurd h (by decide)⟩
set_option maxRecDepth 20000 in
theorem am_mo70 : am_MO 70 := ⟨(am_in3 (List.mem_of_getElem? (i := 45) rfl)), (am_in1 (List.mem_of_getElem? (i := 1) rfl)), fun _ => ⟨(am_in3 (List.mem_of_getElem? (i := 43) rfl)), (am_in3 (List.mem_of_getElem? (i := 44) rfl))⟩, fun h => absurd h (by decide), fun h => absurd h (by decide)⟩
set_option maxRecDepth 20000 in
theorem am_mo71 : am_MO 71 := ⟨(am_in3 (List.mem_of_getElem? (i := 50) rfl)), (am_in1 (List.mem_of_getElem? (i := 1) rfl)), fun _ => ⟨(am_in3 (List.mem_of_getElem? (i := 48) rfl)), (am_in3 (List.mem_of_getElem? (i := 49) rfl))⟩, fun h => absurd h (by decide), fun h => absurd h (by decide)⟩
set_option maxRecDepth 20000 in
theorem am_mo72 : am_MO 72 := ⟨(am_in3 (List.mem_of_getElem? (i := 54) rfl)), (am_in1 (List.mem_of_getElem? (i := 1) rfl)), fun _ => ⟨(am_in3 (List.mem_of_getElem? (i := 52) rfl)), (am_in3 (List.mem_of_getElem? (i := 53) rfl))⟩, fun h => absurd h (by decide), fun h => absurd h (by decide)⟩
set_option maxRecDepth 20000 in
theorem am_mo73 : am_MO 73 := ⟨(am_in3 (List.mem_of_getElem? (i := 58) rfl)), (am_in1 (List.mem_of_getElem? (i := 1) rfl)), fun _ => ⟨(am_in3 (List.mem_of_getElem? (i := 56) rfl)), (am_in3 (List.mem_of_getElem? (i := 57) rfl))⟩, fun h => absurd h (by decide), fun h => absurd h (by decide)⟩
set_option maxRecDepth 20000 in
theorem am_mo74 : am_MO 74 := ⟨(am_in3 (List.mem_of_getElem? (i := 72) rfl)), (am_in1 (List.mem_of_getElem? (i := 1) rfl)), fun _ => ⟨(am_in3 (List.mem_of_getElem? (i := 70) rfl)), (am_in3 (List.mem_of_getElem? (i := 71) rfl))⟩, fun h => absurd h (by decide), fun h => absurd h (by decide)⟩
set_option maxRecDepth 20000 in
theorem am_mo75 : am_MO 75 := ⟨(am_in3 (List.mem_of_getElem? (i := 76) rfl)), (am_in1 (List.mem_of_getElem? (i := 1) rfl)), fun _ => ⟨(am_in3 (List.mem_of_getElem? (i := 74) rfl)), (am_in3 (List.mem_of_getElem? (i := 75) rfl))⟩, fun h => absurd h (by decide), fun h => absurd h (by decide)⟩
set_option maxRecDepth 20000 in
theorem am_mo76 : am_MO 76 := ⟨(am_in3 (List.mem_of_getElem? (i := 88) rfl)), (am_in1 (List.mem_of_getElem? (i := 1) rfl)), fun _ => ⟨(am_in3 (List.mem_of_getElem? (i := 86) rfl)), (am_in3 (List.mem_of_getElem? (i := 87) rfl))⟩, fun h => absurd h (by decide), fun h => absurd h (by decide)⟩
set_option maxRecDepth 20000 in
theorem am_mo77 : am_MO 77 := ⟨(am_in3 (List.mem_of_getElem? (i := 93) rfl)), (am_in1 (List.mem_of_getElem? (i := 1) rfl)), fun _ => ⟨(am_in3 (List.mem_of_getElem? (i := 91) rfl)), (am_in3 (List.mem_of_getElem? (i := 92) rfl))⟩, fun h => absurd h (by decide), fun h => absurd h (by decide)⟩
set_option maxRecDepth 20000 in
theorem am_mo78 : am_MO 78 := ⟨(am_in3 (List.mem_of_getElem? (i := 102) rfl)), (am_in1 (List.mem_of_getElem? (i := 1) rfl)), fun _ => ⟨(am_in3 (List.mem_of_getElem? (i := 100) rfl)), (am_in3 (List.mem_of_getElem? (i := 101) rfl))⟩, fun h => absurd h (by decide), fun h => absurd h (by decide)⟩
set_option maxRecDepth 20000 in
theorem am_mo79 : am_MO 79 := ⟨(am_in3 (List.mem_of_getElem? (i := 109) rfl)), (am_in1 (List.mem_of_getElem? (i := 1) rfl)), fun _ => ⟨(am_in3 (List.mem_of_getElem? (i := 107) rfl)), (am_in3 (List.mem_of_getElem? (i := 108) rfl))⟩, fun h => absurd h (by decide), fun h => absurd h (by decide)⟩
set_option maxRecDepth 20000 in
theorem am_mo80 : am_MO 80 := ⟨(am_in3 (List.mem_of_getElem? (i := 123) rfl)), (am_in1 (List.mem_of_getElem? (i := 1) rfl)), fun _ => ⟨(am_in3 (List.mem_of_getElem? (i := 121) rfl)), (am_in3 (List.mem_of_getElem? (i := 122) rfl))⟩, fun h => absurd h (by decide), fun h => absurd h (by decide)⟩
set_option maxRecDepth 20000 in
theorem am_mo81 : am_MO 81 := ⟨(am_in3 (List.mem_of_getElem? (i := 136) rfl)), (am_in1 (List.mem_of_getElem? (i := 1) rfl)), fun _ => ⟨(am_in3 (List.mem_of_getElem? (i := 135) rfl)), (am_in0 (List.mem_of_getElem? (i := 21) rfl))⟩, fun h => absurd h (by decide), fun h => absurd h (by decide)⟩
set_option maxRecDepth 20000 in
theorem am_mo82 : am_MO 82 := ⟨(am_in3 (List.mem_of_getElem? (i := 143) rfl)), (am_in1 (List.mem_of_getElem? (i := 1) rfl)), fun _ => ⟨(am_in3 (List.mem_of_getElem? (i := 142) rfl)), (am_in0 (List.mem_of_getElem? (i := 22) rfl))⟩, fun h => absurd h (by decide), fun h => absurd h (by decide)⟩
set_option maxRecDepth 20000 in
theorem am_mo83 : am_MO 83 := ⟨(am_in3 (List.mem_of_getElem? (i := 128) rfl)), (am_in1 (List.mem_of_getElem? (i := 1) rfl)), fun h => absurd h (by decide), fun _ => (am_in3 (List.mem_of_getElem? (i := 127) rfl)), fun h => absurd h (by decide)⟩
set_option maxRecDepth 20000 in
theorem am_mo84 : am_MO 84 := ⟨(am_in2 (List.mem_of_getElem? (i := 53) rfl)), (am_in1 (List.mem_of_getElem? (i := 1) rfl)), fun h => absurd h (by decide), fun _ => (am_in2 (List.mem_of_getElem? (i := 52) rfl)), fun h => absurd h (by decide)⟩
set_option maxRecDepth 20000 in
theorem am_mo85 : am_MO 85 := ⟨(am_in2 (List.mem_of_getElem? (i := 3) rfl)), (am_in1 (List.mem_of_getElem? (i := 1) rfl)), fun h => absurd h (by decide), fun _ => (am_in2 (List.mem_of_getElem? (i := 2) rfl)), fun h => absurd h (by decide)⟩
set_option maxRecDepth 20000 in
theorem am_mo86 : am_MO 86 := ⟨(am_in2 (List.mem_of_getElem? (i := 153) rfl)), (am_in1 (List.mem_of_getElem? (i := 1) rfl)), fun _ => ⟨(am_in2 (List.mem_of_getElem? (i := 152) rfl)), (am_in0 (List.mem_of_getElem? (i := 8) rfl))⟩, fun h => absurd h (by decide), fun h => absurd h (by decide)⟩
set_option maxRecDepth 20000 in
theorem am_mo87 : am_MO 87 := ⟨(am_in2 (List.mem_of_getElem? (i := 31) rfl)), (am_in1 (List.mem_of_getElem? (i := 1) rfl)), fun _ => ⟨(am_in2 (List.mem_of_getElem? (i := 30) rfl)), (am_in0 (List.mem_of_getElem? (i := 0) rfl))⟩, fun h => absurd h (by decide), fun h => absurd h (by decide)⟩
set_option maxRecDepth 20000 in
theorem am_mo88 : am_MO 88 := ⟨(am_in2 (List.mem_of_getElem? (i := 38) rfl)), (am_in1 (List.mem_of_getElem? (i := 1) rfl)), fun h => absurd h (by decide), fun _ => (am_in2 (List.mem_of_getElem? (i := 37) rfl)), fun h => absurd h (by decide)⟩
set_option maxRecDepth 20000 in
theorem am_mo89 : am_MO 89 := ⟨(am_in2 (List.mem_of_getElem? (i := 127) rfl)), (am_in1 (List.mem_of_getElem? (i := 1) rfl)), fun _ => ⟨(am_in2 (List.mem_of_getElem? (i := 126) rfl)), (am_in0 (List.mem_of_getElem? (i := 7) rfl))⟩, fun h => absurd h (by decide), fun h => absurd h (by decide)⟩
set_option maxRecDepth 20000 in
theorem am_mo90 : am_MO 90 := ⟨(am_in2 (List.mem_of_getElem? (i := 123) rfl)), (am_in1 (List.mem_of_getElem? (i := 1) rfl)), fun _ => ⟨(am_in2 (List.mem_of_getElem? (i := 122) rfl)), (am_in0 (List.mem_of_getElem? (i := 6) rfl))⟩, fun h => absurd h (by decide), fun h => absurd h (by decide)⟩
set_option maxRecDepth 20000 in
theorem am_mo91 : am_MO 91 := ⟨(am_in2 (List.mem_of_getElem? (i := 130) rfl)), (am_in1 (List.mem_of_getElem? (i := 1) rfl)), fun h => absurd h (by decide), fun _ => (am_in2 (List.mem_of_getElem? (i := 129) rfl)), fun h => absurd h (by decide)⟩
set_option maxRecDepth 20000 in
theorem am_mo92 : am_MO 92 := ⟨(am_in2 (List.mem_of_getElem? (i := 214) rfl)), (am_in1 (List.mem_of_getElem? (i := 1) rfl)), fun _ => ⟨(am_in2 (List.mem_of_getElem? (i := 213) rfl)), (am_in0 (List.mem_of_getElem? (i := 14) rfl))⟩, fun h => absurd h (by decide), fun h => absurd h (by decide)⟩
set_option maxRecDepth 20000 in
theorem am_mo93 : am_MO 93 := ⟨(am_in2 (List.mem_of_getElem? (i := 149) rfl)), (am_in1 (List.mem_of_getElem? (i := 1) rfl)), fun h => absurd h (by decide), fun _ => (am_in2 (List.mem_of_getElem? (i := 148) rfl)), fun h => absurd h (by decide)⟩
set_option maxRecDepth 20000 in
theorem am_mo94 : am_MO 94 := ⟨(am_in3 (List.mem_of_getElem? (i := 61) rfl)), (am_in1 (List.mem_of_getElem? (i := 1) rfl)), fun h => absurd h (by decide), fun _ => (am_in3 (List.mem_of_getElem? (i := 60) rfl)), fun h => absurd h (by decide)⟩
set_option maxRecDepth 20000 in
theorem am_mo95 : am_MO 95 := ⟨(am_in2 (List.mem_of_getElem? (i := 183) rfl)), (am_in1 (List.mem_of_getElem? (i := 1) rfl)), fun _ => ⟨(am_in2 (List.mem_of_getElem? (i := 182) rfl)), (am_in0 (List.mem_of_getElem? (i := 10) rfl))⟩, fun h => absurd h (by decide), fun h => absurd h (by decide)⟩
set_option maxRecDepth 20000 in
theorem am_mo96 : am_MO 96 := ⟨(am_in2 (List.mem_of_getElem? (i := 187) rfl)), (am_in1 (List.mem_of_getElem? (i := 1) rfl)), fun _ => ⟨(am_in2 (List.mem_of_getElem? (i := 186) rfl)), (am_in0 (List.mem_of_getElem? (i := 11) rfl))⟩, fun h => absurd h (by decide), fun h => absurd h (by decide)⟩
set_option maxRecDepth 20000 in
theorem am_mo97 : am_MO 97 := ⟨(am_in2 (List.mem_of_getElem? (i := 179) rfl)), (am_in1 (List.mem_of_getElem? (i := 1) rfl)), fun _ => ⟨(am_in2 (List.mem_of_getElem? (i := 178) rfl)), (am_in0 (List.mem_of_getElem? (i := 9) rfl))⟩, fun h => absurd h (by decide), fun h => absurd h (by decide)⟩
set_option maxRecDepth 20000 in
theorem am_mo98 : am_MO 98 := ⟨(am_in2 (List.mem_of_getElem? (i := 57) rfl)), (am_in1 (List.mem_of_getElem? (i := 1) rfl)), fun _ => ⟨(am_in2 (List.mem_of_getElem? (i := 56) rfl)), (am_in0 (List.mem_of_getElem? (i := 1) rfl))⟩, fun h => absurd h (by decide), fun h => absurd h (by decide)⟩
set_option maxRecDepth 20000 in
theorem am_mo99 : am_MO 99 := ⟨(am_in2 (List.mem_of_getElem? (i := 230) rfl)), (am_in1 (List.mem_of_getElem? (i := 1) rfl)), fun _ => ⟨(am_in2 (List.mem_of_getElem? (i := 229) rfl)), (am_in0 (List.mem_of_getElem? (i := 15) rfl))⟩, fun h => absurd h (by decide), fun h => absurd h (by decide)⟩
set_option maxRecDepth 20000 in
theorem am_mo100 : am_MO 100 := ⟨(am_in3 (List.mem_of_getElem? (i := 119) rfl)), (am_in1 (List.mem_of_getElem? (i := 1) rfl)), fun _ => ⟨(am_in3 (List.mem_of_getElem? (i := 118) rfl)), (am_in0 (List.mem_of_getElem? (i := 20) rfl))⟩, fun h => absurd h (by decide), fun h => absurd h (by decide)⟩
set_option maxRecDepth 20000 in
theorem am_mo101 : am_MO 101 := ⟨(am_in2 (List.mem_of_getElem? (i := 61) rfl)), (am_in1 (List.mem_of_getElem? (i := 1) rfl)), fun _ => ⟨(am_in2 (List.mem_of_getElem? (i := 60) rfl)), (am_in0 (List.mem_of_getElem? (i := 2) rfl))⟩, fun h => absurd h (by decide), fun h => absurd h (by decide)⟩
set_option maxRecDepth 20000 in
theorem am_mo102 : am_MO 102 := ⟨(am_in2 (List.mem_of_getElem? (i := 191) rfl)), (am_in1 (List.mem_of_getElem? (i := 1) rfl)), fun _ => ⟨(am_in2 (List.mem_of_getElem? (i := 190) rfl)), (am_in0 (List.mem_of_getElem? (i := 12) rfl))⟩, fun h => absurd h (by decide), fun h => absurd h (by decide)⟩
set_option maxRecDepth 20000 in
theorem am_mo103 : am_MO 103 := ⟨(am_in2 (List.mem_of_getElem? (i := 195) rfl)), (am_in1 (List.mem_of_getElem? (i := 1) rfl)), fun _ => ⟨(am_in2 (List.mem_of_getElem? (i := 194) rfl)), (am_in0 (List.mem_of_getElem? (i := 13) rfl))⟩, fun h => absurd h (by decide), fun h => absurd h (by decide)⟩
set_option maxRecDepth 20000 in
theorem am_mo104 : am_MO 104 := ⟨(am_in2 (List.mem_of_getElem? (i := 238) rfl)), (am_in1 (List.mem_of_getElem? (i := 1) rfl)), fun _ => ⟨(am_in2 (List.mem_of_getElem? (i := 237) rfl)), (am_in0 (List.mem_of_getElem? (i := 16) rfl))⟩, fun h => absurd h (by decide), fun h => absurd h (by decide)⟩
set_option maxRecDepth 20000 in
theorem am_mo105 : am_MO 105 := ⟨(am_in3 (List.mem_of_getElem? (i := 2) rfl)), (am_in1 (List.mem_of_getElem? (i := 1) rfl)), fun _ => ⟨(am_in3 (List.mem_of_getElem? (i := 1) rfl)), (am_in0 (List.mem_of_getElem? (i := 17) rfl))⟩, fun h => absurd h (by decide), fun h => absurd h (by decide)⟩
set_option maxRecDepth 20000 in
theorem am_mo106 : am_MO 106 := ⟨(am_in3 (List.mem_of_getElem? (i := 36) rfl)), (am_in1 (List.mem_of_getElem? (i := 1) rfl)), fun _ => ⟨(am_in3 (List.mem_of_getElem? (i := 35) rfl)), (am_in0 (List.mem_of_getElem? (i := 19) rfl))⟩, fun h => absurd h (by decide), fun h => absurd h (by decide)⟩
set_option maxRecDepth 20000 in
theorem am_mo107 : am_MO 107 := ⟨(am_in3 (List.mem_of_getElem? (i := 153) rfl)), (am_in1 (List.mem_of_getElem? (i := 10) rfl)), fun h => absurd h (by decide), fun h => absurd h (by decide), fun _ => (am_in3 (List.mem_of_getElem? (i := 152) rfl))⟩
set_option maxRecDepth 20000 in
theorem am_mo108 : am_MO 108 := ⟨(am_in4 (List.mem_of_getElem? (i := 2) rfl)), (am_in1 (List.mem_of_getElem? (i := 10) rfl)), fun h => absurd h (by decide), fun _ => (am_in4 (List.mem_of_getElem? (i := 1) rfl)), fun h => absurd h (by decide)⟩
set_option maxRecDepth 20000 in
theorem am_mo109 : am_MO 109 := ⟨(am_in4 (List.mem_of_getElem? (i := 84) rfl)), (am_in1 (List.mem_of_getElem? (i := 10) rfl)), fun h => absurd h (by decide), fun _ => (am_in4 (List.mem_of_getElem? (i := 83) rfl)), fun h => absurd h (by decide)⟩
set_option maxRecDepth 20000 in
theorem am_mo110 : am_MO 110 := ⟨(am_in4 (List.mem_of_getElem? (i := 77) rfl)), (am_in1 (List.mem_of_getElem? (i := 10) rfl)), fun h => absurd h (by decide), fun _ => (am_in4 (List.mem_of_getElem? (i := 76) rfl)), fun h => absurd h (by decide)⟩
set_option maxRecDepth 20000 in
theorem am_mo111 : am_MO 111 := ⟨(am_in5 (List.mem_of_getElem? (i := 68) rfl)), (am_in1 (List.mem_of_getElem? (i := 10) rfl)), fun h => absurd h (by decide), fun _ => (am_in5 (List.mem_of_getElem? (i := 67) rfl)), fun h => absurd h (by decide)⟩
set_option maxRecDepth 20000 in
theorem am_mo112 : am_MO 112 := ⟨(am_in4 (List.mem_of_getElem? (i := 7) rfl)), (am_in1 (List.mem_of_getElem? (i := 10) rfl)), fun _ => ⟨(am_in4 (List.mem_of_getElem? (i := 6) rfl)), (am_in0 (List.mem_of_getElem? (i := 23) rfl))⟩, fun h => absurd h (by decide), fun h => absurd h (by decide)⟩
set_option maxRecDepth 20000 in
theorem am_mo113 : am_MO 113 := ⟨(am_in3 (List.mem_of_getElem? (i := 238) rfl)), (am_in1 (List.mem_of_getElem? (i := 10) rfl)), fun h => absurd h (by decide), fun _ => (am_in3 (List.mem_of_getElem? (i := 237) rfl)), fun h => absurd h (by decide)⟩
set_option maxRecDepth 20000 in
theorem am_mo114 : am_MO 114 := ⟨(am_in3 (List.mem_of_getElem? (i := 235) rfl)), (am_in1 (List.mem_of_getElem? (i := 10) rfl)), fun _ => ⟨(am_in3 (List.mem_of_getElem? (i := 233) rfl)), (am_in3 (List.mem_of_getElem? (i := 234) rfl))⟩, fun h => absurd h (by decide), fun h => absurd h (by decide)⟩
set_option maxRecDepth 20000 in
theorem am_mo115 : am_MO 115 := ⟨(am_in4 (List.mem_of_getElem? (i := 11) rfl)), (am_in1 (List.mem_of_getElem? (i := 10) rfl)), fun _ => ⟨(am_in4 (List.mem_of_getElem? (i := 9) rfl)), (am_in4 (List.mem_of_getElem? (i := 10) rfl))⟩, fun h => absurd h (by decide), fun h => absurd h (by decide)⟩
set_option maxRecDepth 20000 in
theorem am_mo116 : am_MO 116 := ⟨(am_in4 (List.mem_of_getElem? (i := 19) rfl)), (am_in1 (List.mem_of_getElem? (i := 10) rfl)), fun _ => ⟨(am_in4 (List.mem_of_getElem? (i := 18) rfl)), (am_in0 (List.mem_of_getElem? (i := 24) rfl))⟩, fun h => absurd h (by decide), fun h => absurd h (by decide)⟩
set_option maxRecDepth 20000 in
theorem am_mo117 : am_MO 117 := ⟨(am_in4 (List.mem_of_getElem? (i := 22) rfl)), (am_in1 (List.mem_of_getElem? (i := 10) rfl)), fun h => absurd h (by decide), fun _ => (am_in4 (List.mem_of_getElem? (i := 21) rfl)), fun h => absurd h (by decide)⟩
set_option maxRecDepth 20000 in
theorem am_mo118 : am_MO 118 := ⟨(am_in4 (List.mem_of_getElem? (i := 15) rfl)), (am_in1 (List.mem_of_getElem? (i := 10) rfl)), fun _ => ⟨(am_in4 (List.mem_of_getElem? (i := 13) rfl)), (am_in4 (List.mem_of_getElem? (i := 14) rfl))⟩, fun h => absurd h (by decide), fun h => absurd h (by decide)⟩
set_option maxRecDepth 20000 in
theorem am_mo119 : am_MO 119 := ⟨(am_in4 (List.mem_of_getElem? (i := 26) rfl)), (am_in1 (List.mem_of_getElem? (i := 10) rfl)), fun _ => ⟨(am_in4 (List.mem_of_getElem? (i := 24) rfl)), (am_in4 (List.mem_of_getElem? (i := 25) rfl))⟩, fun h => absurd h (by decide), fun h => absurd h (by decide)⟩
set_option maxRecDepth 20000 in
theorem am_mo120 : am_MO 120 := ⟨(am_in4 (List.mem_of_getElem? (i := 31) rfl)), (am_in1 (List.mem_of_getElem? (i := 10) rfl)), fun _ => ⟨(am_in4 (List.mem_of_getElem? (i := 29) rfl)), (am_in4 (List.mem_of_getElem? (i := 30) rfl))⟩, fun h => absurd h (by decide), fun h => absurd h (by decide)⟩
set_option maxRecDepth 20000 in
theorem am_mo121 : am_MO 121 := ⟨(am_in4 (List.mem_of_getElem? (i := 35) rfl)), (am_in1 (List.mem_of_getElem? (i := 10) rfl)), fun _ => ⟨(am_in4 (List.mem_of_getElem? (i := 33) rfl)), (am_in4 (List.mem_of_getElem? (i := 34) rfl))⟩, fun h => absurd h (by decide), fun h => absurd h (by decide)⟩
set_option maxRecDepth 20000 in
theorem am_mo122 : am_MO 122 := ⟨(am_in4 (List.mem_of_getElem? (i := 40) rfl)), (am_in1 (List.mem_of_getElem? (i := 10) rfl)), fun _ => ⟨(am_in4 (List.mem_of_getElem? (i := 38) rfl)), (am_in4 (List.mem_of_getElem? (i := 39) rfl))⟩, fun h => absurd h (by decide), fun h => absurd h (by decide)⟩
set_option maxRecDepth 20000 in
theorem am_mo123 : am_MO 123 := ⟨(am_in4 (List.mem_of_getElem? (i := 45) rfl)), (am_in1 (List.mem_of_getElem? (i := 10) rfl)), fun _ => ⟨(am_in4 (List.mem_of_getElem? (i := 43) rfl)), (am_in4 (List.mem_of_getElem? (i := 44) rfl))⟩, fun h => absurd h (by decide), fun h => absurd h (by decide)⟩
set_option maxRecDepth 20000 in
theorem am_mo124 : am_MO 124 := ⟨(am_in4 (List.mem_of_getElem? (i := 57) rfl)), (am_in1 (List.mem_of_getElem? (i := 10) rfl)), fun _ => ⟨(am_in4 (List.mem_of_getElem? (i := 56) rfl)), (am_in0 (List.mem_of_getElem? (i := 26) rfl))⟩, fun h => absurd h (by decide), fun h => absurd h (by decide)⟩
set_option maxRecDepth 20000 in
theorem am_mo125 : am_MO 125 := ⟨(am_in4 (List.mem_of_getElem? (i := 53) rfl)), (am_in1 (List.mem_of_getElem? (i := 10) rfl)), fun _ => ⟨(am_in4 (List.mem_of_getElem? (i := 52) rfl)), (am_in0 (List.mem_of_getElem? (i := 25) rfl))⟩, fun h => absurd h (by decide), fun h => absurd h (by decide)⟩
set_option maxRecDepth 20000 in
theorem am_mo126 : am_MO 126 := ⟨(am_in4 (List.mem_of_getElem? (i := 62) rfl)), (am_in1 (List.mem_of_getElem? (i := 10) rfl)), fun _ => ⟨(am_in4 (List.mem_of_getElem? (i := 61) rfl)), (am_in0 (List.mem_of_getElem? (i := 27) rfl))⟩, fun h => absurd h (by decide), fun h => absurd h (by decide)⟩
set_option maxRecDepth 20000 in
theorem am_mo127 : am_MO 127 := ⟨(am_in4 (List.mem_of_getElem? (i := 49) rfl)), (am_in1 (List.mem_of_getElem? (i := 10) rfl)), fun _ => ⟨(am_in4 (List.mem_of_getElem? (i := 47) rfl)), (am_in4 (List.mem_of_getElem? (i := 48) rfl))⟩, fun h => absurd h (by decide), fun h => absurd h (by decide)⟩
set_option maxRecDepth 20000 in
theorem am_mo128 : am_MO 128 := ⟨(am_in4 (List.mem_of_getElem? (i := 66) rfl)), (am_in1 (List.mem_of_getElem? (i := 10) rfl)), fun _ => ⟨(am_in4 (List.mem_of_getElem? (i := 64) rfl)), (am_in4 (List.mem_of_getElem? (i := 65) rfl))⟩, fun h => absurd h (by decide), fun h => absurd h (by decide)⟩
set_option maxRecDepth 20000 in
theorem am_mo129 : am_MO 129 := ⟨(am_in4 (List.mem_of_getElem? (i := 74) rfl)), (am_in1 (List.mem_of_getElem? (i := 10) rfl)), fun _ => ⟨(am_in4 (List.mem_of_getElem? (i := 73) rfl)), (am_in0 (List.mem_of_getElem? (i := 28) rfl))⟩, fun h => absurd h (by decide), fun h => absurd h (by decide)⟩
set_option maxRecDepth 20000 in
theorem am_mo130 : am_MO 130 := ⟨(am_in4 (List.mem_of_getElem? (i := 70) rfl)), (am_in1 (List.mem_of_getElem? (i := 10) rfl)), fun _ => ⟨(am_in4 (List.mem_of_getElem? (i := 68) rfl)), (am_in4 (List.mem_of_getElem? (i := 69) rfl))⟩, fun h => absurd h (by decide), fun h => absurd h (by decide)⟩
set_option maxRecDepth 20000 in
theorem am_mo131 : am_MO 131 := ⟨(am_in4 (List.mem_of_getElem? (i := 90) rfl)), (am_in1 (List.mem_of_getElem? (i := 10) rfl)), fun _ => ⟨(am_in4 (List.mem_of_getElem? (i := 89) rfl)), (am_in0 (List.mem_of_getElem? (i := 29) rfl))⟩, fun h => absurd h (by decide), fun h => absurd h (by decide)⟩
set_option maxRecDepth 20000 in
theorem am_mo132 : am_MO 132 := ⟨(am_in4 (List.mem_of_getElem? (i := 81) rfl)), (am_in1 (List.mem_of_getElem? (i := 10) rfl)), fun _ => ⟨(am_in4 (List.mem_of_getElem? (i := 79) rfl)), (am_in4 (List.mem_of_getElem? (i := 80) rfl))⟩, fun h => absurd h (by decide), fun h => absurd h (by decide)⟩
set_option maxRecDepth 20000 in
theorem am_mo133 : am_MO 133 := ⟨(am_in4 (List.mem_of_getElem? (i := 129) rfl)), (am_in1 (List.mem_of_getElem? (i := 10) rfl)), fun _ => ⟨(am_in4 (List.mem_of_getElem? (i := 128) rfl)), (am_in0 (List.mem_of_getElem? (i := 36) rfl))⟩, fun h => absurd h (by decide), fun h => absurd h (by decide)⟩
set_option maxRecDepth 20000 in
theorem am_mo134 : am_MO 134 := ⟨(am_in4 (List.mem_of_getElem? (i := 125) rfl)), (am_in1 (List.mem_of_getElem? (i := 10) rfl)), fun _ => ⟨(am_in4 (List.mem_of_getElem? (i := 124) rfl)), (am_in0 (List.mem_of_getElem? (i := 35) rfl))⟩, fun h => absurd h (by decide), fun h => absurd h (by decide)⟩
set_option maxRecDepth 20000 in
theorem am_mo135 : am_MO 135 := ⟨(am_in4 (List.mem_of_getElem? (i := 117) rfl)), (am_in1 (List.mem_of_getElem? (i := 10) rfl)), fun h => absurd h (by decide), fun _ => (am_in4 (List.mem_of_getElem? (i := 116) rfl)), fun h => absurd h (by decide)⟩
set_option maxRecDepth 20000 in
theorem am_mo136 : am_MO 136 := ⟨(am_in4 (List.mem_of_getElem? (i := 114) rfl)), (am_in1 (List.mem_of_getElem? (i := 10) rfl)), fun _ => ⟨(am_in4 (List.mem_of_getElem? (i := 113) rfl)), (am_in0 (List.mem_of_getElem? (i := 34) rfl))⟩, fun h => absurd h (by decide), fun h => absurd h (by decide)⟩
set_option maxRecDepth 20000 in
theorem am_mo137 : am_MO 137 := ⟨(am_in4 (List.mem_of_getElem? (i := 110) rfl)), (am_in1 (List.mem_of_getElem? (i := 10) rfl)), fun _ => ⟨(am_in4 (List.mem_of_getElem? (i := 109) rfl)), (am_in0 (List.mem_of_getElem? (i := 33) rfl))⟩, fun h => absurd h (by decide), fun h => absurd h (by decide)⟩
set_option maxRecDepth 20000 in
theorem am_mo138 : am_MO 138 := ⟨(am_in4 (List.mem_of_getElem? (i := 121) rfl)), (am_in1 (List.mem_of_getElem? (i := 10) rfl)), fun h => absurd h (by decide), fun _ => (am_in4 (List.mem_of_getElem? (i := 120) rfl)), fun h => absurd h (by decide)⟩
set_option maxRecDepth 20000 in
theorem am_mo139 : am_MO 139 := ⟨(am_in4 (List.mem_of_getElem? (i := 106) rfl)), (am_in1 (List.mem_of_getElem? (i := 10) rfl)), fun _ => ⟨(am_in4 (List.mem_of_getElem? (i := 105) rfl)), (am_in0 (List.mem_of_getElem? (i := 32) rfl))⟩, fun h => absurd h (by decide), fun h => absurd h (by decide)⟩
set_option maxRecDepth 20000 in
theorem am_mo140 : am_MO 140 := ⟨(am_in4 (List.mem_of_getElem? (i := 166) rfl)), (am_in1 (List.mem_of_getElem? (i := 10) rfl)), fun _ => ⟨(am_in4 (List.mem_of_getElem? (i := 165) rfl)), (am_in0 (List.mem_of_getElem? (i := 39) rfl))⟩, fun h => absurd h (by decide), fun h => absurd h (by decide)⟩
set_option maxRecDepth 20000 in
theorem am_mo141 : am_MO 141 := ⟨(am_in4 (List.mem_of_getElem? (i := 194) rfl)), (am_in1 (List.mem_of_getElem? (i := 10) rfl)), fun _ => ⟨(am_in4 (List.mem_of_getElem? (i := 193) rfl)), (am_in0 (List.mem_of_getElem? (i := 44) rfl))⟩, fun h => absurd h (by decide), fun h => absurd h (by decide)⟩
set_option maxRecDepth 20000 in
theorem am_mo142 : am_MO 142 := ⟨(am_in4 (List.mem_of_getElem? (i := 190) rfl)), (am_in1 (List.mem_of_getElem? (i := 10) rfl)), fun _ => ⟨(am_in4 (List.mem_of_getElem? (i := 189) rfl)), (am_in0 (List.mem_of_getElem? (i := 43) rfl))⟩, fun h => absurd h (by decide), fun h => absurd h (by decide)⟩
set_option maxRecDepth 20000 in
theorem am_mo143 : am_MO 143 := ⟨(am_in4 (List.mem_of_getElem? (i := 186) rfl)), (am_in1 (List.mem_of_getElem? (i := 10) rfl)), fun _ => ⟨(am_in4 (List.mem_of_getElem? (i := 185) rfl)), (am_in0 (List.mem_of_getElem? (i := 42) rfl))⟩, fun h => absurd h (by decide), fun h => absurd h (by decide)⟩
set_option maxRecDepth 20000 in
theorem am_mo144 : am_MO 144 := ⟨(am_in4 (List.mem_of_getElem? (i := 102) rfl)), (am_in1 (List.mem_of_getElem? (i := 10) rfl)), fun _ => ⟨(am_in4 (List.mem_of_getElem? (i := 101) rfl)), (am_in0 (List.mem_of_getElem? (i := 31) rfl))⟩, fun h => absurd h (by decide), fun h => absurd h (by decide)⟩
set_option maxRecDepth 20000 in
theorem am_mo145 : am_MO 145 := ⟨(am_in4 (List.mem_of_getElem? (i := 98) rfl)), (am_in1 (List.mem_of_getElem? (i := 10) rfl)), fun _ => ⟨(am_in4 (List.mem_of_getElem? (i := 97) rfl)), (am_in0 (List.mem_of_getElem? (i := 30) rfl))⟩, fun h => absurd h (by decide), fun h => absurd h (by decide)⟩
set_option maxRecDepth 20000 in
theorem am_mo146 : am_MO 146 := ⟨(am_in4 (List.mem_of_getElem? (i := 94) rfl)), (am_in1 (List.mem_of_getElem? (i := 10) rfl)), fun _ => ⟨(am_in4 (List.mem_of_getElem? (i := 92) rfl)), (am_in4 (List.mem_of_getElem? (i := 93) rfl))⟩, fun h => absurd h (by decide), fun h => absurd h (by decide)⟩
set_option maxRecDepth 20000 in
theorem am_mo147 : am_MO 147 := ⟨(am_in4 (List.mem_of_getElem? (i := 133) rfl)), (am_in1 (List.mem_of_getElem? (i := 10) rfl)), fun _ => ⟨(am_in4 (List.mem_of_getElem? (i := 131) rfl)), (am_in4 (List.mem_of_getElem? (i := 132) rfl))⟩, fun h => absurd h (by decide), fun h => absurd h (by decide)⟩
set_option maxRecDepth 20000 in
theorem am_mo148 : am_MO 148 := ⟨(am_in4 (List.mem_of_getElem? (i := 137) rfl)), (am_in1 (List.mem_of_getElem? (i := 10) rfl)), fun _ => ⟨(am_in4 (List.mem_of_getElem? (i := 135) rfl)), (am_in4 (List.mem_of_getElem? (i := 136) rfl))⟩, fun h => absurd h (by decide), fun h => absurd h (by decide)⟩
set_option maxRecDepth 20000 in
theorem am_mo149 : am_MO 149 := ⟨(am_in4 (List.mem_of_getElem? (i := 145) rfl)), (am_in1 (List.mem_of_getElem? (i := 10) rfl)), fun _ => ⟨(am_in4 (List.mem_of_getElem? (i := 144) rfl)), (am_in0 (List.mem_of_getElem? (i := 37) rfl))⟩, fun h => absurd h (by decide), fun h => absurd h (by decide)⟩
set_option maxRecDepth 20000 in
theorem am_mo150 : am_MO 150 := ⟨(am_in4 (List.mem_of_getElem? (i := 150) rfl)), (am_in1 (List.mem_of_getElem? (i := 10) rfl)), fun _ => ⟨(am_in4 (List.mem_of_getElem? (i := 149) rfl)), (am_in0 (List.mem_of_getElem? (i := 38) rfl))⟩, fun h => absurd h (by decide), fun h => absurd h (by decide)⟩
set_option maxRecDepth 20000 in
theorem am_mo151 : am_MO 151 := ⟨(am_in4 (List.mem_of_getElem? (i := 141) rfl)), (am_in1 (List.mem_of_getElem? (i := 10) rfl)), fun _ => ⟨(am_in4 (List.mem_of_getElem? (i := 139) rfl)), (am_in4 (List.mem_of_getElem? (i := 140) rfl))⟩, fun h => absurd h (by decide), fun h => absurd h (by decide)⟩
set_option maxRecDepth 20000 in
theorem am_mo152 : am_MO 152 := ⟨(am_in4 (List.mem_of_getElem? (i := 154) rfl)), (am_in1 (List.mem_of_getElem? (i := 10) rfl)), fun _ => ⟨(am_in4 (List.mem_of_getElem? (i := 152) rfl)), (am_in4 (List.mem_of_getElem? (i := 153) rfl))⟩, fun h => absurd h (by decide), fun h => absurd h (by decide)⟩
set_option maxRecDepth 20000 in
theorem am_mo153 : am_MO 153 := ⟨(am_in4 (List.mem_of_getElem? (i := 158) rfl)), (am_in1 (List.mem_of_getElem? (i := 10) rfl)), fun _ => ⟨(am_in4 (List.mem_of_getElem? (i := 156) rfl)), (am_in4 (List.mem_of_getElem? (i := 157) rfl))⟩, fun h => absurd h (by decide), fun h => absurd h (by decide)⟩
set_option maxRecDepth 20000 in
theorem am_mo154 : am_MO 154 := ⟨(am_in4 (List.mem_of_getElem? (i := 162) rfl)), (am_in1 (List.mem_of_getElem? (i := 10) rfl)), fun _ => ⟨(am_in4 (List.mem_of_getElem? (i := 160) rfl)), (am_in4 (List.mem_of_getElem? (i := 161) rfl))⟩, fun h => absurd h (by decide), fun h => absurd h (by decide)⟩
set_option maxRecDepth 20000 in
theorem am_mo155 : am_MO 155 := ⟨(am_in4 (List.mem_of_getElem? (i := 174) rfl)), (am_in1 (List.mem_of_getElem? (i := 10) rfl)), fun _ => ⟨(am_in4 (List.mem_of_getElem? (i := 173) rfl)), (am_in0 (List.mem_of_getElem? (i := 40) rfl))⟩, fun h => absurd h (by decide), fun h => absurd h (by decide)⟩
set_option maxRecDepth 20000 in
theorem am_mo156 : am_MO 156 := ⟨(am_in4 (List.mem_of_getElem? (i := 170) rfl)), (am_in1 (List.mem_of_getElem? (i := 10) rfl)), fun _ => ⟨(am_in4 (List.mem_of_getElem? (i := 168) rfl)), (am_in4 (List.mem_of_getElem? (i := 169) rfl))⟩, fun h => absurd h (by decide), fun h => absurd h (by decide)⟩
set_option maxRecDepth 20000 in
theorem am_mo157 : am_MO 157 := ⟨(am_in4 (List.mem_of_getElem? (i := 198) rfl)), (am_in1 (List.mem_of_getElem? (i := 10) rfl)), fun _ => ⟨(am_in4 (List.mem_of_getElem? (i := 197) rfl)), (am_in0 (List.mem_of_getElem? (i := 45) rfl))⟩, fun h => absurd h (by decide), fun h => absurd h (by decide)⟩
set_option maxRecDepth 20000 in
theorem am_mo158 : am_MO 158 := ⟨(am_in4 (List.mem_of_getElem? (i := 182) rfl)), (am_in1 (List.mem_of_getElem? (i := 10) rfl)), fun _ => ⟨(am_in4 (List.mem_of_getElem? (i := 181) rfl)), (am_in0 (List.mem_of_getElem? (i := 41) rfl))⟩, fun h => absurd h (by decide), fun h => absurd h (by decide)⟩
set_option maxRecDepth 20000 in
theorem am_mo159 : am_MO 159 := ⟨(am_in4 (List.mem_of_getElem? (i := 178) rfl)), (am_in1 (List.mem_of_getElem? (i := 10) rfl)), fun _ => ⟨(am_in4 (List.mem_of_getElem? (i := 176) rfl)), (am_in4 (List.mem_of_getElem? (i := 177) rfl))⟩, fun h => absurd h (by decide), fun h => absurd h (by decide)⟩
set_option maxRecDepth 20000 in
theorem am_mo160 : am_MO 160 := ⟨(am_in4 (List.mem_of_getElem? (i := 202) rfl)), (am_in1 (List.mem_of_getElem? (i := 10) rfl)), fun _ => ⟨(am_in4 (List.mem_of_getElem? (i := 200) rfl)), (am_in4 (List.mem_of_getElem? (i := 201) rfl))⟩, fun h => absurd h (by decide), fun h => absurd h (by decide)⟩
set_option maxRecDepth 20000 in
theorem am_mo161 : am_MO 161 := ⟨(am_in4 (List.mem_of_getElem? (i := 210) rfl)), (am_in1 (List.mem_of_getElem? (i := 10) rfl)), fun _ => ⟨(am_in4 (List.mem_of_getElem? (i := 209) rfl)), (am_in0 (List.mem_of_getElem? (i := 46) rfl))⟩, fun h => absurd h (by decide), fun h => absurd h (by decide)⟩
set_option maxRecDepth 20000 in
theorem am_mo162 : am_MO 162 := ⟨(am_in4 (List.mem_of_getElem? (i := 218) rfl)), (am_in1 (List.mem_of_getElem? (i := 10) rfl)), fun _ => ⟨(am_in4 (List.mem_of_getElem? (i := 217) rfl)), (am_in0 (List.mem_of_getElem? (i := 48) rfl))⟩, fun h => absurd h (by decide), fun h => absurd h (by decide)⟩
set_option maxRecDepth 20000 in
theorem am_mo163 : am_MO 163 := ⟨(am_in4 (List.mem_of_getElem? (i := 214) rfl)), (am_in1 (List.mem_of_getElem? (i := 10) rfl)), fun _ => ⟨(am_in4 (List.mem_of_getElem? (i := 213) rfl)), (am_in0 (List.mem_of_getElem? (i := 47) rfl))⟩, fun h => absurd h (by decide), fun h => absurd h (by decide)⟩
set_option maxRecDepth 20000 in
theorem am_mo164 : am_MO 164 := ⟨(am_in4 (List.mem_of_getElem? (i := 206) rfl)), (am_in1 (List.mem_of_getElem? (i := 10) rfl)), fun _ => ⟨(am_in4 (List.mem_of_getElem? (i := 204) rfl)), (am_in4 (List.mem_of_getElem? (i := 205) rfl))⟩, fun h => absurd h (by decide), fun h => absurd h (by decide)⟩
set_option maxRecDepth 20000 in
theorem am_mo165 : am_MO 165 := ⟨(am_in4 (List.mem_of_getElem? (i := 222) rfl)), (am_in1 (List.mem_of_getElem? (i := 10) rfl)), fun _ => ⟨(am_in4 (List.mem_of_getElem? (i := 220) rfl)), (am_in4 (List.mem_of_getElem? (i := 221) rfl))⟩, fun h => absurd h (by decide), fun h => absurd h (by decide)⟩
set_option maxRecDepth 20000 in
theorem am_mo166 : am_MO 166 := ⟨(am_in4 (List.mem_of_getElem? (i := 226) rfl)), (am_in1 (List.mem_of_getElem? (i := 10) rfl)), fun _ => ⟨(am_in4 (List.mem_of_getElem? (i := 224) rfl)), (am_in4 (List.mem_of_getElem? (i := 225) rfl))⟩, fun h => absurd h (by decide), fun h => absurd h (by decide)⟩
set_option maxRecDepth 20000 in
theorem am_mo167 : am_MO 167 := ⟨(am_in4 (List.mem_of_getElem? (i := 238) rfl)), (am_in1 (List.mem_of_getElem? (i := 10) rfl)), fun _ => ⟨(am_in4 (List.mem_of_getElem? (i := 237) rfl)), (am_in0 (List.mem_of_getElem? (i := 50) rfl))⟩, fun h => absurd h (by decide), fun h => absurd h (by decide)⟩
set_option maxRecDepth 20000 in
theorem am_mo168 : am_MO 168 := ⟨(am_in4 (List.mem_of_getElem? (i := 234) rfl)), (am_in1 (List.mem_of_getElem? (i := 10) rfl)), fun _ => ⟨(am_in4 (List.mem_of_getElem? (i := 233) rfl)), (am_in0 (List.mem_of_getElem? (i := 49) rfl))⟩, fun h => absurd h (by decide), fun h => absurd h (by decide)⟩
set_option maxRecDepth 20000 in
theorem am_mo169 : am_MO 169 := ⟨(am_in4 (List.mem_of_getElem? (i := 230) rfl)), (am_in1 (List.mem_of_getElem? (i := 10) rfl)), fun _ => ⟨(am_in4 (List.mem_of_getElem? (i := 228) rfl)), (am_in4 (List.mem_of_getElem? (i := 229) rfl))⟩, fun h => absurd h (by decide), fun h => absurd h (by decide)⟩
set_option maxRecDepth 20000 in
theorem am_mo170 : am_MO 170 := ⟨(am_in5 (List.mem_of_getElem? (i := 7) rfl)), (am_in1 (List.mem_of_getElem? (i := 10) rfl)), fun _ => ⟨(am_in5 (List.mem_of_getElem? (i := 6) rfl)), (am_in0 (List.mem_of_getElem? (i := 51) rfl))⟩, fun h => absurd h (by decide), fun h => absurd h (by decide)⟩
set_option maxRecDepth 20000 in
theorem am_mo171 : am_MO 171 := ⟨(am_in5 (List.mem_of_getElem? (i := 15) rfl)), (am_in1 (List.mem_of_getElem? (i := 10) rfl)), fun _ => ⟨(am_in5 (List.mem_of_getElem? (i := 14) rfl)), (am_in0 (List.mem_of_getElem? (i := 53) rfl))⟩, fun h => absurd h (by decide), fun h => absurd h (by decide)⟩
set_option maxRecDepth 20000 in
theorem am_mo172 : am_MO 172 := ⟨(am_in5 (List.mem_of_getElem? (i := 11) rfl)), (am_in1 (List.mem_of_getElem? (i := 10) rfl)), fun _ => ⟨(am_in5 (List.mem_of_getElem? (i := 10) rfl)), (am_in0 (List.mem_of_getElem? (i := 52) rfl))⟩, fun h => absurd h (by decide), fun h => absurd h (by decide)⟩
set_option maxRecDepth 20000 in
theorem am_mo173 : am_MO 173 := ⟨(am_in5 (List.mem_of_getElem? (i := 2) rfl)), (am_in1 (List.mem_of_getElem? (i := 10) rfl)), fun _ => ⟨(am_in5 (List.mem_of_getElem? (i := 0) rfl)), (am_in5 (List.mem_of_getElem? (i := 1) rfl))⟩, fun h => absurd h (by decide), fun h => absurd h (by decide)⟩
set_option maxRecDepth 20000 in
theorem am_mo174 : am_MO 174 := ⟨(am_in5 (List.mem_of_getElem? (i := 19) rfl)), (am_in1 (List.mem_of_getElem? (i := 10) rfl)), fun _ => ⟨(am_in5 (List.mem_of_getElem? (i := 17) rfl)), (am_in5 (List.mem_of_getElem? (i := 18) rfl))⟩, fun h => absurd h (by decide), fun h => absurd h (by decide)⟩
set_option maxRecDepth 20000 in
theorem am_mo175 : am_MO 175 := ⟨(am_in5 (List.mem_of_getElem? (i := 23) rfl)), (am_in1 (List.mem_of_getElem? (i := 10) rfl)), fun _ => ⟨(am_in5 (List.mem_of_getElem? (i := 21) rfl)), (am_in5 (List.mem_of_getElem? (i := 22) rfl))⟩, fun h => absurd h (by decide), fun h => absurd h (by decide)⟩
set_option maxRecDepth 20000 in
theorem am_mo176 : am_MO 176 := ⟨(am_in5 (List.mem_of_getElem? (i := 35) rfl)), (am_in1 (List.mem_of_getElem? (i := 10) rfl)), fun _ => ⟨(am_in5 (List.mem_of_getElem? (i := 34) rfl)), (am_in0 (List.mem_of_getElem? (i := 55) rfl))⟩, fun h => absurd h (by decide), fun h => absurd h (by decide)⟩
set_option maxRecDepth 20000 in
theorem am_mo177 : am_MO 177 := ⟨(am_in5 (List.mem_of_getElem? (i := 39) rfl)), (am_in1 (List.mem_of_getElem? (i := 10) rfl)), fun _ => ⟨(am_in5 (List.mem_of_getElem? (i := 38) rfl)), (am_in0 (List.mem_of_getElem? (i := 56) rfl))⟩, fun h => absurd h (by decide), fun h => absurd h (by decide)⟩
set_option maxRecDepth 20000 in
theorem am_mo178 : am_MO 178 := ⟨(am_in5 (List.mem_of_getElem? (i := 31) rfl)), (am_in1 (List.mem_of_getElem? (i := 10) rfl)), fun _ => ⟨(am_in5 (List.mem_of_getElem? (i := 30) rfl)), (am_in0 (List.mem_of_getElem? (i := 54) rfl))⟩, fun h => absurd h (by decide), fun h => absurd h (by decide)⟩
set_option maxRecDepth 20000 in
theorem am_mo179 : am_MO 179 := ⟨(am_in5 (List.mem_of_getElem? (i := 27) rfl)), (am_in1 (List.mem_of_getElem? (i := 10) rfl)), fun _ => ⟨(am_in5 (List.mem_of_getElem? (i := 25) rfl)), (am_in5 (List.mem_of_getElem? (i := 26) rfl))⟩, fun h => absurd h (by decide), fun h => absurd h (by decide)⟩
set_option maxRecDepth 20000 in
theorem am_mo180 : am_MO 180 := ⟨(am_in5 (List.mem_of_getElem? (i := 43) rfl)), (am_in1 (List.mem_of_getElem? (i := 10) rfl)), fun _ => ⟨(am_in5 (List.mem_of_getElem? (i := 41) rfl)), (am_in5 (List.mem_of_getElem? (i := 42) rfl))⟩, fun h => absurd h (by decide), fun h => absurd h (by decide)⟩
set_option maxRecDepth 20000 in
theorem am_mo181 : am_MO 181 := ⟨(am_in5 (List.mem_of_getElem? (i := 53) rfl)), (am_in1 (List.mem_of_getElem? (i := 10) rfl)), fun _ => ⟨(am_in5 (List.mem_of_getElem? (i := 52) rfl)), (am_in0 (List.mem_of_getElem? (i := 57) rfl))⟩, fun h => absurd h (by decide), fun h => absurd h (by decide)⟩
set_option maxRecDepth 20000 in
theorem am_mo182 : am_MO 182 := ⟨(am_in5 (List.mem_of_getElem? (i := 48) rfl)), (am_in1 (List.mem_of_getElem? (i := 10) rfl)), fun _ => ⟨(am_in5 (List.mem_of_getElem? (i := 46) rfl)), (am_in5 (List.mem_of_getElem? (i := 47) rfl))⟩, fun h => absurd h (by decide), fun h => absurd h (by decide)⟩
set_option maxRecDepth 20000 in
theorem am_mo183 : am_MO 183 := ⟨(am_in5 (List.mem_of_getElem? (i := 61) rfl)), (am_in1 (List.mem_of_getElem? (i := 10) rfl)), fun _ => ⟨(am_in5 (List.mem_of_getElem? (i := 60) rfl)), (am_in0 (List.mem_of_getElem? (i := 58) rfl))⟩, fun h => absurd h (by decide), fun h => absurd h (by decide)⟩
set_option maxRecDepth 20000 in
theorem am_mo184 : am_MO 184 := ⟨(am_in5 (List.mem_of_getElem? (i := 57) rfl)), (am_in1 (List.mem_of_getElem? (i := 10) rfl)), fun _ => ⟨(am_in5 (List.mem_of_getElem? (i := 55) rfl)), (am_in5 (List.mem_of_getElem? (i := 56) rfl))⟩, fun h => absurd h (by decide), fun h => absurd h (by decide)⟩
set_option maxRecDepth 20000 in
theorem am_mo185 : am_MO 185 := ⟨(am_in5 (List.mem_of_getElem? (i := 65) rfl)), (am_in1 (List.mem_of_getElem? (i := 10) rfl)), fun _ => ⟨(am_in5 (List.mem_of_getElem? (i := 63) rfl)), (am_in5 (List.mem_of_getElem? (i := 64) rfl))⟩, fun h => absurd h (by decide), fun h => absurd h (by decide)⟩
set_option maxRecDepth 20000 in
theorem am_mo186 : am_MO 186 := ⟨(am_in5 (List.mem_of_getElem? (i := 76) rfl)), (am_in1 (List.mem_of_getElem? (i := 10) rfl)), fun _ => ⟨(am_in5 (List.mem_of_getElem? (i := 75) rfl)), (am_in0 (List.mem_of_getElem? (i := 59) rfl))⟩, fun h => absurd h (by decide), fun h => absurd h (by decide)⟩
set_option maxRecDepth 20000 in
theorem am_mo187 : am_MO 187 := ⟨(am_in5 (List.mem_of_getElem? (i := 80) rfl)), (am_in1 (List.mem_of_getElem? (i := 10) rfl)), fun _ => ⟨(am_in5 (List.mem_of_getElem? (i := 79) rfl)), (am_in0 (List.mem_of_getElem? (i := 60) rfl))⟩, fun h => absurd h (by decide), fun h => absurd h (by decide)⟩
set_option maxRecDepth 20000 in
theorem am_mo188 : am_MO 188 := ⟨(am_in5 (List.mem_of_getElem? (i := 72) rfl)), (am_in1 (List.mem_of_getElem? (i := 10) rfl)), fun _ => ⟨(am_in5 (List.mem_of_getElem? (i := 70) rfl)), (am_in5 (List.mem_of_getElem? (i := 71) rfl))⟩, fun h => absurd h (by decide), fun h => absurd h (by decide)⟩
set_option maxRecDepth 20000 in
theorem am_mo189 : am_MO 189 := ⟨(am_in5 (List.mem_of_getElem? (i := 92) rfl)), (am_in1 (List.mem_of_getElem? (i := 10) rfl)), fun _ => ⟨(am_in5 (List.mem_of_getElem? (i := 91) rfl)), (am_in0 (List.mem_of_getElem? (i := 61) rfl))⟩, fun h => absurd h (by decide), fun h => absurd h (by decide)⟩
set_option maxRecDepth 20000 in
theorem am_mo190 : am_MO 190 := ⟨(am_in5 (List.mem_of_getElem? (i := 96) rfl)), (am_in1 (List.mem_of_getElem? (i := 10) rfl)), fun _ => ⟨(am_in5 (List.mem_of_getElem? (i := 95) rfl)), (am_in0 (List.mem_of_getElem? (i := 62) rfl))⟩, fun h => absurd h (by decide), fun h => absurd h (by decide)⟩
set_option maxRecDepth 20000 in
theorem am_mo191 : am_MO 191 := ⟨(am_in5 (List.mem_of_getElem? (i := 84) rfl)), (am_in1 (List.mem_of_getElem? (i := 10) rfl)), fun _ => ⟨(am_in5 (List.mem_of_getElem? (i := 82) rfl)), (am_in5 (List.mem_of_getElem? (i := 83) rfl))⟩, fun h => absurd h (by decide), fun h => absurd h (by decide)⟩
set_option maxRecDepth 20000 in
theorem am_mo192 : am_MO 192 := ⟨(am_in3 (List.mem_of_getElem? (i := 112) rfl)), (am_in1 (List.mem_of_getElem? (i := 13) rfl)), fun h => absurd h (by decide), fun _ => (am_in3 (List.mem_of_getElem? (i := 111) rfl)), fun h => absurd h (by decide)⟩
set_option maxRecDepth 20000 in
theorem am_mo193 : am_MO 193 := ⟨(am_in3 (List.mem_of_getElem? (i := 68) rfl)), (am_in1 (List.mem_of_getElem? (i := 12) rfl)), fun h => absurd h (by decide), fun _ => (am_in3 (List.mem_of_getElem? (i := 67) rfl)), fun h => absurd h (by decide)⟩
set_option maxHeartbeats 4000000 in
theorem am_mo (m : Nat) (hm : m < 194) : am_MO m := by
  by_cases h96 : m ≤ 96
  · by_cases h48 : m ≤ 48
    · by_cases h24 : m ≤ 24
      · by_cases h12 : m ≤ 12
        · by_cases h6 : m ≤ 6
          · by_cases h3 : m ≤ 3
            · by_cases h1 : m ≤ 1
              · by_cases h0 : m ≤ 0
                · have e : m = 0 := by omega
                  subst e
                  exact am_mo0
                · have e : m = 1 := by omega
                  subst e
                  exact am_mo1
              · by_cases h2 : m ≤ 2
                · have e : m = 2 := by omega
                  subst e
                  exact am_mo2
                · have e : m = 3 := by omega
                  subst e
                  exact am_mo3
            · by_cases h5 : m ≤ 5
              · by_cases h4 : m ≤ 4
                · have e : m = 4 := by omega
                  subst e
                  exact am_mo4
                · have e : m = 5 := by omega
                  subst e
                  exact am_mo5
              · have e : m = 6 := by omega
                subst e
                exact am_mo6
          · by_cases h9 : m ≤ 9
            · by_cases h8 : m ≤ 8
              · by_cases h7 : m ≤ 7
                · have e : m = 7 := by omega
                  subst e
                  exact am_mo7
                · have e : m = 8 := by omega
                  subst e
                  exact am_mo8
              · have e : m = 9 := by omega
                subst e
                exact am_mo9
            · by_cases h11 : m ≤ 11
              · by_cases h10 : m ≤ 10
                · have e : m = 10 := by omega
                  subst e
                  exact am_mo10
                · have e : m = 11 := by omega
                  subst e
                  exact am_mo11
              · have e : m = 12 := by omega
                subst e
                exact am_mo12
        · by_cases h18 : m ≤ 18
          · by_cases h15 : m ≤ 15
            · by_cases h14 : m ≤ 14
              · by_cases h13 : m ≤ 13
                · have e : m = 13 := by omega
                  subst e
                  exact am_mo13
                · have e : m = 14 := by omega
                  subst e
                  exact am_mo14
              · have e : m = 15 := by omega
                subst e
                exact am_mo15
            · by_cases h17 : m ≤ 17
              · by_cases h16 : m ≤ 16
                · have e : m = 16 := by omega
                  subst e
                  exact am_mo16
                · have e : m = 17 := by omega
                  subst e
                  exact am_mo17
              · have e : m = 18 := by omega
                subst e
                exact am_mo18
          · by_cases h21 : m ≤ 21
            · by_cases h20 : m ≤ 20
              · by_cases h19 : m ≤ 19
                · have e : m = 19 := by omega
                  subst e
                  exact am_mo19
                · have e : m = 20 := by omega
                  subst e
                  exact am_mo20
              · have e : m = 21 := by omega
                subst e
                exact am_mo21
            · by_cases h23 : m ≤ 23
              · by_cases h22 : m ≤ 22
                · have e : m = 22 := by omega
                  subst e
                  exact am_mo22
                · have e : m = 23 := by omega
                  subst e
                  exact am_mo23
              · have e : m = 24 := by omega
                subst e
                exact am_mo24
      · by_cases h36 : m ≤ 36
        · by_cases h30 : m ≤ 30
          · by_cases h27 : m ≤ 27
            · by_cases h26 : m ≤ 26
              · by_cases h25 : m ≤ 25
                · have e : m = 25 := by omega
                  subst e
                  exact am_mo25
                · have e : m = 26 := by omega
                  subst e
                  exact am_mo26
              · have e : m = 27 := by omega
                subst e
                exact am_mo27
            · by_cases h29 : m ≤ 29
              · by_cases h28 : m ≤ 28
                · have e : m = 28 := by omega
                  subst e
                  exact am_mo28
                · have e : m = 29 := by omega
                  subst e
                  exact am_mo29
              · have e : m = 30 := by omega
                subst e
                exact am_mo30
          · by_cases h33 : m ≤ 33
            · by_cases h32 : m ≤ 32
              · by_cases h31 : m ≤ 31
                · have e : m = 31 := by omega
                  subst e
                  exact am_mo31
                · have e : m = 32 := by omega
                  subst e
                  exact am_mo32
              · have e : m = 33 := by omega
                subst e
                exact am_mo33
            · by_cases h35 : m ≤ 35
              · by_cases h34 : m ≤ 34
                · have e : m = 34 := by omega
                  subst e
                  exact am_mo34
                · have e : m = 35 := by omega
                  subst e
                  exact am_mo35
              · have e : m = 36 := by omega
                subst e
                exact am_mo36
        · by_cases h42 : m ≤ 42
          · by_cases h39 : m ≤ 39
            · by_cases h38 : m ≤ 38
              · by_cases h37 : m ≤ 37
                · have e : m = 37 := by omega
                  subst e
                  exact am_mo37
                · have e : m = 38 := by omega
                  subst e
                  exact am_mo38
              · have e : m = 39 := by omega
                subst e
                exact am_mo39
            · by_cases h41 : m ≤ 41
              · by_cases h40 : m ≤ 40
                · have e : m = 40 := by omega
                  subst e
                  exact am_mo40
                · have e : m = 41 := by omega
                  subst e
                  exact am_mo41
              · have e : m = 42 := by omega
                subst e
                exact am_mo42
          · by_cases h45 : m ≤ 45
            · by_cases h44 : m ≤ 44
              · by_cases h43 : m ≤ 43
                · have e : m = 43 := by omega
                  subst e
                  exact am_mo43
                · have e : m = 44 := by omega
                  subst e
                  exact am_mo44
              · have e : m = 45 := by omega
                subst e
                exact am_mo45
            · by_cases h47 : m ≤ 47
              · by_cases h46 : m ≤ 46
                · have e : m = 46 := by omega
                  subst e
                  exact am_mo46
                · have e : m = 47 := by omega
                  subst e
                  exact am_mo47
              · have e : m = 48 := by omega
                subst e
                exact am_mo48
    · by_cases h72 : m ≤ 72
      · by_cases h60 : m ≤ 60
        · by_cases h54 : m ≤ 54
          · by_cases h51 : m ≤ 51
            · by_cases h50 : m ≤ 50
              · by_cases h49 : m ≤ 49
                · have e : m = 49 := by omega
                  subst e
                  exact am_mo49
                · have e : m = 50 := by omega
                  subst e
                  exact am_mo50
              · have e : m = 51 := by omega
                subst e
                exact am_mo51
            · by_cases h53 : m ≤ 53
              · by_cases h52 : m ≤ 52
                · have e : m = 52 := by omega
                  subst e
                  exact am_mo52
                · have e : m = 53 := by omega
                  subst e
                  exact am_mo53
              · have e : m = 54 := by omega
                subst e
                exact am_mo54
          · by_cases h57 : m ≤ 57
            · by_cases h56 : m ≤ 56
              · by_cases h55 : m ≤ 55
                · have e : m = 55 := by omega
                  subst e
                  exact am_mo55
                · have e : m = 56 := by omega
                  subst e
                  exact am_mo56
              · have e : m = 57 := by omega
                subst e
                exact am_mo57
            · by_cases h59 : m ≤ 59
              · by_cases h58 : m ≤ 58
                · have e : m = 58 := by omega
                  subst e
                  exact am_mo58
                · have e : m = 59 := by omega
                  subst e
                  exact am_mo59
              · have e : m = 60 := by omega
                subst e
                exact am_mo60
        · by_cases h66 : m ≤ 66
          · by_cases h63 : m ≤ 63
            · by_cases h62 : m ≤ 62
              · by_cases h61 : m ≤ 61
                · have e : m = 61 := by omega
                  subst e
                  exact am_mo61
                · have e : m = 62 := by omega
                  subst e
                  exact am_mo62
              · have e : m = 63 := by omega
                subst e
                exact am_mo63
            · by_cases h65 : m ≤ 65
              · by_cases h64 : m ≤ 64
                · have e : m = 64 := by omega
                  subst e
                  exact am_mo64
                · have e : m = 65 := by omega
                  subst e
                  exact am_mo65
              · have e : m = 66 := by omega
                subst e
                exact am_mo66
          · by_cases h69 : m ≤ 69
            · by_cases h68 : m ≤ 68
              · by_cases h67 : m ≤ 67
                · have e : m = 67 := by omega
                  subst e
                  exact am_mo67
                · have e : m = 68 := by omega
                  subst e
                  exact am_mo68
              · have e : m = 69 := by omega
                subst e
                exact am_mo69
            · by_cases h71 : m ≤ 71
              · by_cases h70 : m ≤ 70
                · have e : m = 70 := by omega
                  subst e
                  exact am_mo70
                · have e : m = 71 := by omega
                  subst e
                  exact am_mo71
              · have e : m = 72 := by omega
                subst e
                exact am_mo72
      · by_cases h84 : m ≤ 84
        · by_cases h78 : m ≤ 78
          · by_cases h75 : m ≤ 75
            · by_cases h74 : m ≤ 74
              · by_cases h73 : m ≤ 73
                · have e : m = 73 := by omega
                  subst e
                  exact am_mo73
                · have e : m = 74 := by omega
                  subst e
                  exact am_mo74
              · have e : m = 75 := by omega
                subst e
                exact am_mo75
            · by_cases h77 : m ≤ 77
              · by_cases h76 : m ≤ 76
                · have e : m = 76 := by omega
                  subst e
                  exact am_mo76
                · have e : m = 77 := by omega
                  subst e
                  exact am_mo77
              · have e : m = 78 := by omega
                subst e
                exact am_mo78
          · by_cases h81 : m ≤ 81
            · by_cases h80 : m ≤ 80
              · by_cases h79 : m ≤ 79
                · have e : m = 79 := by omega
                  subst e
                  exact am_mo79
                · have e : m = 80 := by omega
                  subst e
                  exact am_mo80
              · have e : m = 81 := by omega
                subst e
                exact am_mo81
            · by_cases h83 : m ≤ 83
              · by_cases h82 : m ≤ 82
                · have e : m = 82 := by omega
                  subst e
                  exact am_mo82
                · have e : m = 83 := by omega
                  subst e
                  exact am_mo83
              · have e : m = 84 := by omega
                subst e
                exact am_mo84
        · by_cases h90 : m ≤ 90
          · by_cases h87 : m ≤ 87
            · by_cases h86 : m ≤ 86
              · by_cases h85 : m ≤ 85
                · have e : m = 85 := by omega
                  subst e
                  exact am_mo85
                · have e : m = 86 := by omega
                  subst e
                  exact am_mo86
              · have e : m = 87 := by omega
                subst e
                exact am_mo87
            · by_cases h89 : m ≤ 89
              · by_cases h88 : m ≤ 88
                · have e : m = 88 := by omega
                  subst e
                  exact am_mo88
                · have e : m = 89 := by omega
                  subst e
                  exact am_mo89
              · have e : m = 90 := by omega
                subst e
                exact am_mo90
          · by_cases h93 : m ≤ 93
            · by_cases h92 : m ≤ 92
              · by_cases h91 : m ≤ 91
                · have e : m = 91 := by omega
                  subst e
                  exact am_mo91
                · have e : m = 92 := by omega
                  subst e
                  exact am_mo92
              · have e : m = 93 := by omega
                subst e
                exact am_mo93
            · by_cases h95 : m ≤ 95
              · by_cases h94 : m ≤ 94
                · have e : m = 94 := by omega
                  subst e
                  exact am_mo94
                · have e : m = 95 := by omega
                  subst e
                  exact am_mo95
              · have e : m = 96 := by omega
                subst e
                exact am_mo96
  · by_cases h145 : m ≤ 145
    · by_cases h121 : m ≤ 121
      · by_cases h109 : m ≤ 109
        · by_cases h103 : m ≤ 103
          · by_cases h100 : m ≤ 100
            · by_cases h98 : m ≤ 98
              · by_cases h97 : m ≤ 97
                · have e : m = 97 := by omega
                  subst e
                  exact am_mo97
                · have e : m = 98 := by omega
                  subst e
                  exact am_mo98
              · by_cases h99 : m ≤ 99
                · have e : m = 99 := by omega
                  subst e
                  exact am_mo99
                · have e : m = 100 := by omega
                  subst e
                  exact am_mo100
            · by_cases h102 : m ≤ 102
              · by_cases h101 : m ≤ 101
                · have e : m = 101 := by omega
                  subst e
                  exact am_mo101
                · have e : m = 102 := by omega
                  subst e
                  exact am_mo102
              · have e : m = 103 := by omega
                subst e
                exact am_mo103
          · by_cases h106 : m ≤ 106
            · by_cases h105 : m ≤ 105
              · by_cases h104 : m ≤ 104
                · have e : m = 104 := by omega
                  subst e
                  exact am_mo104
                · have e : m = 105 := by omega
                  subst e
                  exact am_mo105
              · have e : m = 106 := by omega
                subst e
                exact am_mo106
            · by_cases h108 : m ≤ 108
              · by_cases h107 : m ≤ 107
                · have e : m = 107 := by omega
                  subst e
                  exact am_mo107
                · have e : m = 108 := by omega
                  subst e
                  exact am_mo108
              · have e : m = 109 := by omega
                subst e
                exact am_mo109
        · by_cases h115 : m ≤ 115
          · by_cases h112 : m ≤ 112
            · by_cases h111 : m ≤ 111
              · by_cases h110 : m ≤ 110
                · have e : m = 110 := by omega
                  subst e
                  exact am_mo110
                · have e : m = 111 := by omega
                  subst e
                  exact am_mo111
              · have e : m = 112 := by omega
                subst e
                exact am_mo112
            · by_cases h114 : m ≤ 114
              · by_cases h113 : m ≤ 113
                · have e : m = 113 := by omega
                  subst e
                  exact am_mo113
                · have e : m = 114 := by omega
                  subst e
                  exact am_mo114
              · have e : m = 115 := by omega
                subst e
                exact am_mo115
          · by_cases h118 : m ≤ 118
            · by_cases h117 : m ≤ 117
              · by_cases h116 : m ≤ 116
                · have e : m = 116 := by omega
                  subst e
                  exact am_mo116
                · have e : m = 117 := by omega
                  subst e
                  exact am_mo117
              · have e : m = 118 := by omega
                subst e
                exact am_mo118
            · by_cases h120 : m ≤ 120
              · by_cases h119 : m ≤ 119
                · have e : m = 119 := by omega
                  subst e
                  exact am_mo119
                · have e : m = 120 := by omega
                  subst e
                  exact am_mo120
              · have e : m = 121 := by omega
                subst e
                exact am_mo121
      · by_cases h133 : m ≤ 133
        · by_cases h127 : m ≤ 127
          · by_cases h124 : m ≤ 124
            · by_cases h123 : m ≤ 123
              · by_cases h122 : m ≤ 122
                · have e : m = 122 := by omega
                  subst e
                  exact am_mo122
                · have e : m = 123 := by omega
                  subst e
                  exact am_mo123
              · have e : m = 124 := by omega
                subst e
                exact am_mo124
            · by_cases h126 : m ≤ 126
              · by_cases h125 : m ≤ 125
                · have e : m = 125 := by omega
                  subst e
                  exact am_mo125
                · have e : m = 126 := by omega
                  subst e
                  exact am_mo126
              · have e : m = 127 := by omega
                subst e
                exact am_mo127
          · by_cases h130 : m ≤ 130
            · by_cases h129 : m ≤ 129
              · by_cases h128 : m ≤ 128
                · have e : m = 128 := by omega
                  subst e
                  exact am_mo128
                · have e : m = 129 := by omega
                  subst e
                  exact am_mo129
              · have e : m = 130 := by omega
                subst e
                exact am_mo130
            · by_cases h132 : m ≤ 132
              · by_cases h131 : m ≤ 131
                · have e : m = 131 := by omega
                  subst e
                  exact am_mo131
                · have e : m = 132 := by omega
                  subst e
                  exact am_mo132
              · have e : m = 133 := by omega
                subst e
                exact am_mo133
        · by_cases h139 : m ≤ 139
          · by_cases h136 : m ≤ 136
            · by_cases h135 : m ≤ 135
              · by_cases h134 : m ≤ 134
                · have e : m = 134 := by omega
                  subst e
                  exact am_mo134
                · have e : m = 135 := by omega
                  subst e
                  exact am_mo135
              · have e : m = 136 := by omega
                subst e
                exact am_mo136
            · by_cases h138 : m ≤ 138
              · by_cases h137 : m ≤ 137
                · have e : m = 137 := by omega
                  subst e
                  exact am_mo137
                · have e : m = 138 := by omega
                  subst e
                  exact am_mo138
              · have e : m = 139 := by omega
                subst e
                exact am_mo139
          · by_cases h142 : m ≤ 142
            · by_cases h141 : m ≤ 141
              · by_cases h140 : m ≤ 140
                · have e : m = 140 := by omega
                  subst e
                  exact am_mo140
                · have e : m = 141 := by omega
                  subst e
                  exact am_mo141
              · have e : m = 142 := by omega
                subst e
                exact am_mo142
            · by_cases h144 : m ≤ 144
              · by_cases h143 : m ≤ 143
                · have e : m = 143 := by omega
                  subst e
                  exact am_mo143
                · have e : m = 144 := by omega
                  subst e
                  exact am_mo144
              · have e : m = 145 := by omega
                subst e
                exact am_mo145
    · by_cases h169 : m ≤ 169
      · by_cases h157 : m ≤ 157
        · by_cases h151 : m ≤ 151
          · by_cases h148 : m ≤ 148
            · by_cases h147 : m ≤ 147
              · by_cases h146 : m ≤ 146
                · have e : m = 146 := by omega
                  subst e
                  exact am_mo146
                · have e : m = 147 := by omega
                  subst e
                  exact am_mo147
              · have e : m = 148 := by omega
                subst e
                exact am_mo148
            · by_cases h150 : m ≤ 150
              · by_cases h149 : m ≤ 149
                · have e : m = 149 := by omega
                  subst e
                  exact am_mo149
                · have e : m = 150 := by omega
                  subst e
                  exact am_mo150
              · have e : m = 151 := by omega
                subst e
                exact am_mo151
          · by_cases h154 : m ≤ 154
            · by_cases h153 : m ≤ 153
              · by_cases h152 : m ≤ 152
                · have e : m = 152 := by omega
                  subst e
                  exact am_mo152
                · have e : m = 153 := by omega
                  subst e
                  exact am_mo153
              · have e : m = 154 := by omega
                subst e
                exact am_mo154
            · by_cases h156 : m ≤ 156
              · by_cases h155 : m ≤ 155
                · have e : m = 155 := by omega
                  subst e
                  exact am_mo155
                · have e : m = 156 := by omega
                  subst e
                  exact am_mo156
              · have e : m = 157 := by omega
                subst e
                exact am_mo157
        · by_cases h163 : m ≤ 163
          · by_cases h160 : m ≤ 160
            · by_cases h159 : m ≤ 159
              · by_cases h158 : m ≤ 158
                · have e : m = 158 := by omega
                  subst e
                  exact am_mo158
                · have e : m = 159 := by omega
                  subst e
                  exact am_mo159
              · have e : m = 160 := by omega
                subst e
                exact am_mo160
            · by_cases h162 : m ≤ 162
              · by_cases h161 : m ≤ 161
                · have e : m = 161 := by omega
                  subst e
                  exact am_mo161
                · have e : m = 162 := by omega
                  subst e
                  exact am_mo162
              · have e : m = 163 := by omega
                subst e
                exact am_mo163
          · by_cases h166 : m ≤ 166
            · by_cases h165 : m ≤ 165
              · by_cases h164 : m ≤ 164
                · have e : m = 164 := by omega
                  subst e
                  exact am_mo164
                · have e : m = 165 := by omega
                  subst e
                  exact am_mo165
              · have e : m = 166 := by omega
                subst e
                exact am_mo166
            · by_cases h168 : m ≤ 168
              · by_cases h167 : m ≤ 167
                · have e : m = 167 := by omega
                  subst e
                  exact am_mo167
                · have e : m = 168 := by omega
                  subst e
                  exact am_mo168
              · have e : m = 169 := by omega
                subst e
                exact am_mo169
      · by_cases h181 : m ≤ 181
        · by_cases h175 : m ≤ 175
          · by_cases h172 : m ≤ 172
            · by_cases h171 : m ≤ 171
              · by_cases h170 : m ≤ 170
                · have e : m = 170 := by omega
                  subst e
                  exact am_mo170
                · have e : m = 171 := by omega
                  subst e
                  exact am_mo171
              · have e : m = 172 := by omega
                subst e
                exact am_mo172
            · by_cases h174 : m ≤ 174
              · by_cases h173 : m ≤ 173
                · have e : m = 173 := by omega
                  subst e
                  exact am_mo173
                · have e : m = 174 := by omega
                  subst e
                  exact am_mo174
              · have e : m = 175 := by omega
                subst e
                exact am_mo175
          · by_cases h178 : m ≤ 178
            · by_cases h177 : m ≤ 177
              · by_cases h176 : m ≤ 176
                · have e : m = 176 := by omega
                  subst e
                  exact am_mo176
                · have e : m = 177 := by omega
                  subst e
                  exact am_mo177
              · have e : m = 178 := by omega
                subst e
                exact am_mo178
            · by_cases h180 : m ≤ 180
              · by_cases h179 : m ≤ 179
                · have e : m = 179 := by omega
                  subst e
                  exact am_mo179
                · have e : m = 180 := by omega
                  subst e
                  exact am_mo180
              · have e : m = 181 := by omega
                subst e
                exact am_mo181
        · by_cases h187 : m ≤ 187
          · by_cases h184 : m ≤ 184
            · by_cases h183 : m ≤ 183
              · by_cases h182 : m ≤ 182
                · have e : m = 182 := by omega
                  subst e
                  exact am_mo182
                · have e : m = 183 := by omega
                  subst e
                  exact am_mo183
              · have e : m = 184 := by omega
                subst e
                exact am_mo184
            · by_cases h186 : m ≤ 186
              · by_cases h185 : m ≤ 185
                · have e : m = 185 := by omega
                  subst e
                  exact am_mo185
                · have e : m = 186 := by omega
                  subst e
                  exact am_mo186
              · have e : m = 187 := by omega
                subst e
                exact am_mo187
          · by_cases h190 : m ≤ 190
            · by_cases h189 : m ≤ 189
              · by_cases h188 : m ≤ 188
                · have e : m = 188 := by omega
                  subst e
                  exact am_mo188
                · have e : m = 189 := by omega
                  subst e
                  exact am_mo189
              · have e : m = 190 := by omega
                subst e
                exact am_mo190
            · by_cases h192 : m ≤ 192
              · by_cases h191 : m ≤ 191
                · have e : m = 191 := by omega
                  subst e
                  exact am_mo191
                · have e : m = 192 := by omega
                  subst e
                  exact am_mo192
              · have e : m = 193 := by omega
                subst e
                exact am_mo193
theorem am_pl : ∀ m, m < 195 → plainName (am_nm m).cls = true ∧ (am_nm m).cls = am_cn (am_oc m) ∧ (am_nm m).cls ≠ "java/lang/invoke/MethodHandle" ∧ (am_nm m).cls ≠ "java/lang/invoke/VarHandle" ∧ (parseMethodDescriptor (am_nm m).desc).map (fun d => d.parameters.length) = some (am_np m) ∧ (am_mk m = 2 → (am_nm m).name = "<init>" ∧ am_rt m = none) := by decide +kernel
theorem am_objw : Cond.instanceMethod objectInit ∈ lw_tbl ∧ Cond.code objectInit ⟨#[0xb1]⟩ 1 none ∈ lw_tbl := ⟨(am_in1 (List.mem_of_getElem? (i := 20) rfl)), (am_in1 (List.mem_of_getElem? (i := 21) rfl))⟩
theorem am_acpw : Cond.native arraycopyName ∈ lw_tbl ∧ Cond.static arraycopyName ∈ lw_tbl ∧ Cond.initialized "java/lang/System" ∈ lw_tbl := ⟨(am_in2 (List.mem_of_getElem? (i := 202) rfl)), (am_in2 (List.mem_of_getElem? (i := 201) rfl)), (am_in1 (List.mem_of_getElem? (i := 11) rfl))⟩
theorem am_maxw : Cond.static Lib.Math.max.name ∈ lw_tbl ∧ Cond.initialized "java/lang/Math" ∈ lw_tbl ∧ Cond.code Lib.Math.max.name Lib.Math.max.code 2 (some .int) ∈ lw_tbl := ⟨(am_in1 (List.mem_of_getElem? (i := 45) rfl)), (am_in1 (List.mem_of_getElem? (i := 4) rfl)), (am_in1 (List.mem_of_getElem? (i := 46) rfl))⟩
theorem am_minw : Cond.static Lib.Math.min.name ∈ lw_tbl ∧ Cond.initialized "java/lang/Math" ∈ lw_tbl ∧ Cond.code Lib.Math.min.name Lib.Math.min.code 2 (some .int) ∈ lw_tbl := ⟨(am_in3 (List.mem_of_getElem? (i := 104) rfl)), (am_in1 (List.mem_of_getElem? (i := 4) rfl)), (am_in3 (List.mem_of_getElem? (i := 105) rfl))⟩
theorem am_arrw : Cond.arrayClass .int ∈ lw_tbl ∧ Cond.arrayClass .long ∈ lw_tbl := ⟨(am_in1 (List.mem_of_getElem? (i := 37) rfl)), (am_in3 (List.mem_of_getElem? (i := 231) rfl))⟩
theorem am_aow : Cond.arrayOver (.object "WordTerminator$Rule") ∈ lw_tbl ∧ Cond.arrayOver (.object "WordTerminator$Stage") ∈ lw_tbl ∧ Cond.arrayOver (.object "WordTerminator$Sheet") ∈ lw_tbl := ⟨(am_in1 (List.mem_of_getElem? (i := 60) rfl)), (am_in1 (List.mem_of_getElem? (i := 62) rfl)), (am_in1 (List.mem_of_getElem? (i := 64) rfl))⟩
theorem am_insw : ∀ k, k < 9 → Cond.instantiable (am_cn k) (am_nf k) ∈ lw_tbl := by
  intro k hk
  match k, hk with
  | 0, _ => exact (am_in1 (List.mem_of_getElem? (i := 66) rfl))
  | 1, _ => exact (am_in1 (List.mem_of_getElem? (i := 39) rfl))
  | 2, _ => exact (am_in1 (List.mem_of_getElem? (i := 102) rfl))
  | 3, _ => exact (am_in1 (List.mem_of_getElem? (i := 142) rfl))
  | 4, _ => exact (am_in1 (List.mem_of_getElem? (i := 126) rfl))
  | 5, _ => exact (am_in1 (List.mem_of_getElem? (i := 23) rfl))
  | 6, _ => exact (am_in1 (List.mem_of_getElem? (i := 86) rfl))
  | 7, _ => exact (am_in1 (List.mem_of_getElem? (i := 15) rfl))
  | 8, _ => exact (am_in3 (List.mem_of_getElem? (i := 150) rfl))
  | n + 9, h => exact absurd h (by omega)
theorem am_iniw : ∀ k, k < 9 → Cond.initialized (am_cn k) ∈ lw_tbl := by
  intro k hk
  match k, hk with
  | 0, _ => exact (am_in1 (List.mem_of_getElem? (i := 5) rfl))
  | 1, _ => exact (am_in1 (List.mem_of_getElem? (i := 3) rfl))
  | 2, _ => exact (am_in1 (List.mem_of_getElem? (i := 7) rfl))
  | 3, _ => exact (am_in1 (List.mem_of_getElem? (i := 9) rfl))
  | 4, _ => exact (am_in1 (List.mem_of_getElem? (i := 8) rfl))
  | 5, _ => exact (am_in1 (List.mem_of_getElem? (i := 2) rfl))
  | 6, _ => exact (am_in1 (List.mem_of_getElem? (i := 6) rfl))
  | 7, _ => exact (am_in1 (List.mem_of_getElem? (i := 1) rfl))
  | 8, _ => exact (am_in1 (List.mem_of_getElem? (i := 10) rfl))
  | n + 9, h => exact absurd h (by omega)
set_option maxRecDepth 20000 in
theorem am_fw0 : ∀ w ∈ u_ws (am_cn 0) (am_TT 0) 3, w ∈ lw_tbl := by
  intro w hw
  obtain ⟨j, hj, rfl⟩ := List.mem_map.mp hw
  have hj := List.mem_range.mp hj
  match j, hj with
  | 0, _ => exact (am_in1 (List.mem_of_getElem? (i := 78) rfl))
  | 1, _ => exact (am_in1 (List.mem_of_getElem? (i := 80) rfl))
  | 2, _ => exact (am_in1 (List.mem_of_getElem? (i := 82) rfl))
  | n + 3, h => exact absurd h (by omega)
set_option maxRecDepth 20000 in
theorem am_fw1 : ∀ w ∈ u_ws (am_cn 1) (am_TT 1) 2, w ∈ lw_tbl := by
  intro w hw
  obtain ⟨j, hj, rfl⟩ := List.mem_map.mp hw
  have hj := List.mem_range.mp hj
  match j, hj with
  | 0, _ => exact (am_in1 (List.mem_of_getElem? (i := 54) rfl))
  | 1, _ => exact (am_in1 (List.mem_of_getElem? (i := 56) rfl))
  | n + 2, h => exact absurd h (by omega)
set_option maxRecDepth 20000 in
theorem am_fw2 : ∀ w ∈ u_ws (am_cn 2) (am_TT 2) 4, w ∈ lw_tbl := by
  intro w hw
  obtain ⟨j, hj, rfl⟩ := List.mem_map.mp hw
  have hj := List.mem_range.mp hj
  match j, hj with
  | 0, _ => exact (am_in1 (List.mem_of_getElem? (i := 117) rfl))
  | 1, _ => exact (am_in1 (List.mem_of_getElem? (i := 119) rfl))
  | 2, _ => exact (am_in1 (List.mem_of_getElem? (i := 121) rfl))
  | 3, _ => exact (am_in1 (List.mem_of_getElem? (i := 123) rfl))
  | n + 4, h => exact absurd h (by omega)
set_option maxRecDepth 20000 in
theorem am_fw3 : ∀ w ∈ u_ws (am_cn 3) (am_TT 3) 3, w ∈ lw_tbl := by
  intro w hw
  obtain ⟨j, hj, rfl⟩ := List.mem_map.mp hw
  have hj := List.mem_range.mp hj
  match j, hj with
  | 0, _ => exact (am_in1 (List.mem_of_getElem? (i := 153) rfl))
  | 1, _ => exact (am_in1 (List.mem_of_getElem? (i := 155) rfl))
  | 2, _ => exact (am_in1 (List.mem_of_getElem? (i := 157) rfl))
  | n + 3, h => exact absurd h (by omega)
set_option maxRecDepth 20000 in
theorem am_fw4 : ∀ w ∈ u_ws (am_cn 4) (am_TT 4) 2, w ∈ lw_tbl := by
  intro w hw
  obtain ⟨j, hj, rfl⟩ := List.mem_map.mp hw
  have hj := List.mem_range.mp hj
  match j, hj with
  | 0, _ => exact (am_in1 (List.mem_of_getElem? (i := 137) rfl))
  | 1, _ => exact (am_in1 (List.mem_of_getElem? (i := 139) rfl))
  | n + 2, h => exact absurd h (by omega)
set_option maxRecDepth 20000 in
theorem am_fw5 : ∀ w ∈ u_ws (am_cn 5) (am_TT 5) 2, w ∈ lw_tbl := by
  intro w hw
  obtain ⟨j, hj, rfl⟩ := List.mem_map.mp hw
  have hj := List.mem_range.mp hj
  match j, hj with
  | 0, _ => exact (am_in1 (List.mem_of_getElem? (i := 32) rfl))
  | 1, _ => exact (am_in1 (List.mem_of_getElem? (i := 34) rfl))
  | n + 2, h => exact absurd h (by omega)
set_option maxRecDepth 20000 in
theorem am_fw6 : ∀ w ∈ u_ws (am_cn 6) (am_TT 6) 3, w ∈ lw_tbl := by
  intro w hw
  obtain ⟨j, hj, rfl⟩ := List.mem_map.mp hw
  have hj := List.mem_range.mp hj
  match j, hj with
  | 0, _ => exact (am_in1 (List.mem_of_getElem? (i := 95) rfl))
  | 1, _ => exact (am_in1 (List.mem_of_getElem? (i := 97) rfl))
  | 2, _ => exact (am_in1 (List.mem_of_getElem? (i := 99) rfl))
  | n + 3, h => exact absurd h (by omega)
set_option maxRecDepth 20000 in
theorem am_fw7 : ∀ w ∈ u_ws (am_cn 7) (am_TT 7) 14, w ∈ lw_tbl := by
  intro w hw
  obtain ⟨j, hj, rfl⟩ := List.mem_map.mp hw
  have hj := List.mem_range.mp hj
  match j, hj with
  | 0, _ => exact (am_in1 (List.mem_of_getElem? (i := 174) rfl))
  | 1, _ => exact (am_in1 (List.mem_of_getElem? (i := 176) rfl))
  | 2, _ => exact (am_in1 (List.mem_of_getElem? (i := 178) rfl))
  | 3, _ => exact (am_in1 (List.mem_of_getElem? (i := 180) rfl))
  | 4, _ => exact (am_in1 (List.mem_of_getElem? (i := 182) rfl))
  | 5, _ => exact (am_in1 (List.mem_of_getElem? (i := 184) rfl))
  | 6, _ => exact (am_in1 (List.mem_of_getElem? (i := 186) rfl))
  | 7, _ => exact (am_in1 (List.mem_of_getElem? (i := 188) rfl))
  | 8, _ => exact (am_in1 (List.mem_of_getElem? (i := 190) rfl))
  | 9, _ => exact (am_in1 (List.mem_of_getElem? (i := 192) rfl))
  | 10, _ => exact (am_in1 (List.mem_of_getElem? (i := 194) rfl))
  | 11, _ => exact (am_in1 (List.mem_of_getElem? (i := 196) rfl))
  | 12, _ => exact (am_in1 (List.mem_of_getElem? (i := 198) rfl))
  | 13, _ => exact (am_in1 (List.mem_of_getElem? (i := 200) rfl))
  | n + 14, h => exact absurd h (by omega)
set_option maxRecDepth 20000 in
theorem am_fw8 : ∀ w ∈ u_ws (am_cn 8) (am_TT 8) 25, w ∈ lw_tbl := by
  intro w hw
  obtain ⟨j, hj, rfl⟩ := List.mem_map.mp hw
  have hj := List.mem_range.mp hj
  match j, hj with
  | 0, _ => exact (am_in3 (List.mem_of_getElem? (i := 180) rfl))
  | 1, _ => exact (am_in3 (List.mem_of_getElem? (i := 182) rfl))
  | 2, _ => exact (am_in3 (List.mem_of_getElem? (i := 184) rfl))
  | 3, _ => exact (am_in3 (List.mem_of_getElem? (i := 186) rfl))
  | 4, _ => exact (am_in3 (List.mem_of_getElem? (i := 188) rfl))
  | 5, _ => exact (am_in3 (List.mem_of_getElem? (i := 190) rfl))
  | 6, _ => exact (am_in3 (List.mem_of_getElem? (i := 192) rfl))
  | 7, _ => exact (am_in3 (List.mem_of_getElem? (i := 194) rfl))
  | 8, _ => exact (am_in3 (List.mem_of_getElem? (i := 196) rfl))
  | 9, _ => exact (am_in3 (List.mem_of_getElem? (i := 198) rfl))
  | 10, _ => exact (am_in3 (List.mem_of_getElem? (i := 200) rfl))
  | 11, _ => exact (am_in3 (List.mem_of_getElem? (i := 202) rfl))
  | 12, _ => exact (am_in3 (List.mem_of_getElem? (i := 204) rfl))
  | 13, _ => exact (am_in3 (List.mem_of_getElem? (i := 206) rfl))
  | 14, _ => exact (am_in3 (List.mem_of_getElem? (i := 208) rfl))
  | 15, _ => exact (am_in3 (List.mem_of_getElem? (i := 210) rfl))
  | 16, _ => exact (am_in3 (List.mem_of_getElem? (i := 212) rfl))
  | 17, _ => exact (am_in3 (List.mem_of_getElem? (i := 214) rfl))
  | 18, _ => exact (am_in3 (List.mem_of_getElem? (i := 216) rfl))
  | 19, _ => exact (am_in3 (List.mem_of_getElem? (i := 218) rfl))
  | 20, _ => exact (am_in3 (List.mem_of_getElem? (i := 220) rfl))
  | 21, _ => exact (am_in3 (List.mem_of_getElem? (i := 222) rfl))
  | 22, _ => exact (am_in3 (List.mem_of_getElem? (i := 224) rfl))
  | 23, _ => exact (am_in3 (List.mem_of_getElem? (i := 226) rfl))
  | 24, _ => exact (am_in3 (List.mem_of_getElem? (i := 228) rfl))
  | n + 25, h => exact absurd h (by omega)
theorem am_fw : ∀ k, k < 9 → ∀ w ∈ u_ws (am_cn k) (am_TT k) (am_nf k), w ∈ lw_tbl := by
  intro k hk
  match k, hk with
  | 0, _ => exact am_fw0
  | 1, _ => exact am_fw1
  | 2, _ => exact am_fw2
  | 3, _ => exact am_fw3
  | 4, _ => exact am_fw4
  | 5, _ => exact am_fw5
  | 6, _ => exact am_fw6
  | 7, _ => exact am_fw7
  | 8, _ => exact am_fw8
  | n + 9, h => exact absurd h (by omega)
theorem am_fty : ∀ k, k < 9 → ∀ j, j < am_nf k → parseFieldDescriptor (am_TT k j).2.2.1 = some (am_ty k j) := by decide +kernel
theorem am_fnm : ∀ k, k < 9 → ∀ a, a < am_nf k → ∀ b, b < am_nf k → a ≠ b → (am_TT k a).2.1 ≠ (am_TT k b).2.1 := by decide +kernel
theorem am_cl : ∀ k, k < 9 → vwCl[k]? = some (am_cn k, am_TT k, am_nf k) := by
  intro k hk
  match k, hk with
  | 0, _ => rfl
  | 1, _ => rfl
  | 2, _ => rfl
  | 3, _ => rfl
  | 4, _ => rfl
  | 5, _ => rfl
  | 6, _ => rfl
  | 7, _ => rfl
  | 8, _ => rfl
  | n + 9, h => exact absurd h (by omega)
