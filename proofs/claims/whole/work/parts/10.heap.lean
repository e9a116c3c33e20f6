/-! the cells: the world of the kit's words as a function of the abstract heap -/
def am_fv (B S : Nat) (g r : GI) (k : Nat) (i s : Int) : Value := if am_ft k s = 2 then (if r k i s < 0 then .null else .ref (am_ad B S (am_tk k s) (r k i s))) else .int (Int32.ofInt (g k i s))
def am_fs (B S : Nat) (g r : GI) (k : Nat) (i : Int) : List Value := (List.range (am_nf k)).map (fun (s : Nat) => am_fv B S g r k i (s : Int))
def am_en (cy : Nat → ClassId) (B S : Nat) (g r : GI) (k : Nat) (i : Int) : va_E :=
  if am_ak k = 0 then .inr (k, am_fs B S g r k i)
  else .inl (cy (am_acy k), ((am_al k i).toNat, if am_ak k = 1 then .inl (fun (j : Nat) => Int32.ofInt (g k i (j : Int))) else if am_ak k = 2 then .inr (.inl (fun (j : Nat) => Int64.ofInt (g k i (j : Int)))) else .inr (.inr (.inr (.inr (fun (j : Nat) => if r k i (j : Int) < 0 then none else some (am_ad B S (am_tk k 0) (r k i (j : Int)))))))))
def am_ws (cy : Nat → ClassId) (B S : Nat) (g r : GI) (N : Nat) : va_W := (List.range N).map (fun o => (B + o, am_en cy B S g r (am_lay o).1 (am_lay o).2))
theorem am_en_congr {cy : Nat → ClassId} {B S : Nat} {g r g' r' : GI} {k : Nat} {i : Int} (hg : g' k i = g k i) (hr : r' k i = r k i) : am_en cy B S g' r' k i = am_en cy B S g r k i := by
  unfold am_en am_fs am_fv
  rw [hg, hr]
theorem am_wsat {cy : Nat → ClassId} {B S : Nat} {g r : GI} {N o : Nat} (h : o < N) : (am_ws cy B S g r N)[o]? = some (B + o, am_en cy B S g r (am_lay o).1 (am_lay o).2) := by
  unfold am_ws
  rw [List.getElem?_map, List.getElem?_range h]
  rfl
theorem am_wslen {cy : Nat → ClassId} {B S : Nat} {g r : GI} {N : Nat} : (am_ws cy B S g r N).length = N := by
  unfold am_ws
  rw [List.length_map, List.length_range]
set_option maxRecDepth 20000 in
theorem am_layoff0 : ∀ k, k < 34 → ∀ j : Nat, j < 17 → (j : Int) < am_cnt k → am_off k (j : Int) < NA ∧ am_lay (am_off k (j : Int)) = (k, (j : Int)) := by decide +kernel
theorem am_cnt17 : ∀ k, k < 34 → am_cnt k ≤ 17 := by decide +kernel
theorem am_layoff {k : Nat} {i : Int} (hk : k < 34) (h0 : 0 ≤ i) (h1 : i < am_cnt k) : am_off k i < NA ∧ am_lay (am_off k i) = (k, i) := by
  obtain ⟨j, rfl⟩ := Int.eq_ofNat_of_zero_le h0
  exact am_layoff0 k hk j (by have := am_cnt17 k hk; omega) h1
set_option maxRecDepth 20000 in
theorem am_laylay : ∀ o, o < NA → (am_lay o).1 < 34 ∧ 0 ≤ (am_lay o).2 ∧ (am_lay o).2 < am_cnt (am_lay o).1 ∧ am_off (am_lay o).1 (am_lay o).2 = o := by decide +kernel
theorem am_okAeq {N k : Nat} {i : Int} (h : am_okA N k i = true) : k < 34 ∧ 0 ≤ i ∧ i < am_cnt k ∧ am_off k i < N := by
  unfold am_okA at h
  simp only [Bool.and_eq_true, decide_eq_true_eq] at h
  exact ⟨Nat.le_of_ble_eq_true h.1, h.2.1, h.2.2.1, Nat.le_of_ble_eq_true h.2.2.2⟩
theorem am_adeq {B S N k : Nat} {i : Int} (h : am_okA N k i = true) : am_ad B S k i = B + am_off k i := by
  unfold am_ad
  rw [if_neg (by have := (am_okAeq h).1; omega)]
theorem am_wsA {cy : Nat → ClassId} {B S : Nat} {g r : GI} {N k : Nat} {i : Int} (h : am_okA N k i = true) : (am_ws cy B S g r N)[am_off k i]? = some (am_ad B S k i, am_en cy B S g r k i) := by
  obtain ⟨h1, h2, h3, h4⟩ := am_okAeq h
  rw [am_wsat h4, (am_layoff h1 h2 h3).2, am_adeq h]
theorem am_wsD {cy : Nat → ClassId} {B S : Nat} {g r : GI} {N : Nat} : va_D (fun q => B ≤ q) (am_ws cy B S g r N) := by
  have key : ∀ (i : Nat) (q : Nat × va_E), (am_ws cy B S g r N)[i]? = some q → q.1 = B + i := by
    intro i q h
    have hl : i < N := by
      have := (List.getElem?_eq_some_iff.mp h).1
      rwa [am_wslen] at this
    rw [am_wsat hl] at h
    cases h
    rfl
  refine ⟨fun i j x y hi hj hxy => ?_, fun k q hk => ?_⟩
  · have := key i x hi
    have := key j y hj
    omega
  · have := key k q hk
    show B ≤ q.1
    omega
/-- one cell anew -/
theorem am_wsset {cy : Nat → ClassId} {B S : Nat} {g r g' r' : GI} {N k : Nat} {i : Int} (hN : N ≤ NA) (h : am_okA N k i = true) (ho : ∀ k' i', ¬ (k' = k ∧ i' = i) → g' k' i' = g k' i' ∧ r' k' i' = r k' i') :
    (am_ws cy B S g r N).set (am_off k i) (am_ad B S k i, am_en cy B S g' r' k i) = am_ws cy B S g' r' N := by
  obtain ⟨h1, h2, h3, h4⟩ := am_okAeq h
  apply List.ext_getElem?
  intro o
  by_cases hl : o < N
  · rw [am_wsat hl]
    by_cases e : o = am_off k i
    · subst e
      rw [List.getElem?_set_self (by rw [am_wslen]; exact hl), (am_layoff h1 h2 h3).2, am_adeq h]
    · rw [List.getElem?_set_ne (fun z => e z.symm), am_wsat hl]
      have hne : ¬ ((am_lay o).1 = k ∧ (am_lay o).2 = i) := by
        intro z
        have := (am_laylay o (by omega)).2.2.2
        rw [z.1, z.2] at this
        exact e this.symm
      obtain ⟨a1, a2⟩ := ho _ _ hne
      rw [am_en_congr a1 a2]
  · rw [List.getElem?_eq_none (by rw [List.length_set, am_wslen]; omega), List.getElem?_eq_none (by rw [am_wslen]; omega)]
theorem am_wspush {cy : Nat → ClassId} {B S : Nat} {g r g' r' : GI} {N : Nat} (hN : N < NA) (ho : ∀ k' i', ¬ (k' = (am_lay N).1 ∧ i' = (am_lay N).2) → g' k' i' = g k' i' ∧ r' k' i' = r k' i') :
    am_ws cy B S g r N ++ [(B + N, am_en cy B S g' r' (am_lay N).1 (am_lay N).2)] = am_ws cy B S g' r' (N + 1) := by
  unfold am_ws
  rw [List.range_succ, List.map_append]
  congr 1
  apply List.map_congr_left
  intro o hm
  have hm := List.mem_range.mp hm
  have hne : ¬ ((am_lay o).1 = (am_lay N).1 ∧ (am_lay o).2 = (am_lay N).2) := by
    intro z
    have h1 := (am_laylay o (by omega)).2.2.2
    have h2 := (am_laylay N hN).2.2.2
    rw [z.1, z.2] at h1
    omega
  obtain ⟨a1, a2⟩ := ho _ _ hne
  rw [am_en_congr a1 a2]
/-- the script's part -/
def am_sc (L : Nat) (xs : Nat → Int32) (g : GI) : Prop := g 35 0 0 = (L : Int) ∧ ∀ j : Nat, j < L → Int32.ofInt (g 34 0 (j : Int)) = xs j
/-- the heap holds the picture -/
def am_HP (cy : Nat → ClassId) (D : va_G) (B S L : Nat) (xs : Nat → Int32) (g r : GI) (N : Nat) (H : Heap) : Prop :=
  va_P D vwCl (am_ws cy B S g r N) H ∧ (N < NA → H.size = B + N) ∧ N ≤ NA ∧ am_okG g ∧ am_sc L xs g
def am_tys (cy : Nat → ClassId) : List (ClassId × FieldType) := [(cy 0, .int), (cy 1, .long), (cy 2, .object "WordTerminator$Rule"), (cy 3, .object "WordTerminator$Stage"), (cy 4, .object "WordTerminator$Sheet")]
def am_Kx (cy : Nat → ClassId) (D : va_G) (U : State) : Prop := va_K D vwCl (am_tys cy) U ∧ (∀ q ∈ am_MN, va_Nw (.methodLinkNest (am_cn q.1) q.2.1 (am_nm q.2.2) "WordTerminator") U) ∧ va_AO "WordTerminator$Rule" U ∧ va_AO "WordTerminator$Stage" U ∧ va_AO "WordTerminator$Sheet" U
theorem am_Kx.moved {cy : Nat → ClassId} {D : va_G} {s U : State} (hW : s.WarmedH U.vm) (h : am_Kx cy D s) : am_Kx cy D U :=
  ⟨va_K.moved hW.alike h.1, fun q hq => va_Nw.warmM hW (h.2.1 q hq), va_AO.moved hW.alike h.2.2.1, va_AO.moved hW.alike h.2.2.2.1, va_AO.moved hW.alike h.2.2.2.2⟩
theorem am_gsetne {g : GI} {k : Nat} {i s v : Int} {k' : Nat} {i' : Int} (h : ¬ (k' = k ∧ i' = i)) : gset g k i s v k' i' = g k' i' := by
  funext s'
  unfold gset
  rw [if_neg (fun z => h ⟨z.1, z.2.1⟩)]
theorem am_scset {L : Nat} {xs : Nat → Int32} {g : GI} {k : Nat} {i s v : Int} (hk : k < 34) (h : am_sc L xs g) : am_sc L xs (gset g k i s v) := by
  refine ⟨?_, fun j hj => ?_⟩
  · rw [am_gsetne (by omega)]; exact h.1
  · rw [am_gsetne (by omega)]; exact h.2 j hj
set_option maxRecDepth 20000 in
theorem am_ftty : ∀ k, k < 9 → ∀ j, j < am_nf k → (am_ft k (j : Int) = 0 → am_ty k j = .int) ∧ (am_ft k (j : Int) = 1 → am_ty k j = .boolean) ∧ (am_ft k (j : Int) = 2 → (am_ty k j).isReference = true) ∧ am_ft k (j : Int) ≤ 2 := by decide +kernel
theorem am_fitR {t : FieldType} (h : t.isReference = true) (a : Nat) : narrow t (.ref a) = .ref a ∧ fits t (.ref a) = true := by
  cases t <;> first | exact ⟨rfl, rfl⟩ | cases h
section AMH
variable {p : Program} {l : Launch} {e : Env} {R : Room} {s : State} {mi : MethodId} {args : Array Value} {below : List Frame} {meth : Method} {c : Code} {H : Heap} {locs : List Loc} {cells slots : Nat} {Q : State → Prop}
variable {B S m pc L : Nat} {lc : Array Slot} {ls st : List AV} {a : Int} {b c1 d N : Nat} {g r : GI} {cy : Nat → ClassId} {D : va_G} {xs : Nat → Int32} {H0 : Heap}
/-- a field's cell written: put and final put -/
theorem am_Wput {k : Nat} {i : Int} {x : Nat} {f : Nat} {v : Value} {rest : List Value} (hx : p.tables.exec = Jvm.exec) (hb : c.code = am_by m) (hts : ∀ w ∈ am_gw, w.before args s = true) (hown : s.vm.findClass (am_cn (am_oc m)) = some mi.cls) (hini : am_mk m = 2 → meth.name = "<init>")
    (hK : va_K D vwCl (am_tys cy) s) (hP : va_P D vwCl (am_ws cy B S g r N) H) (hS : va_S (fun q => B ≤ q) H0 H locs) (hk9 : k < 9) (hok : am_okA N k i = true) (hf : f < am_nf k) (hl : (am_oc m, x, k, f) ∈ am_FL)
    (hfin : (am_TT k f).2.2.2 = false ∨ ((am_TT k f).2.2.2 = true ∧ am_mk m = 2 ∧ (am_TT k f).1 = am_cn (am_oc m))) (hn : narrow (am_ty k f) v = v) (hfit : fits (am_ty k f) v = true) (hd : decode (am_by m) pc = .ok (.putfield x, 3))
    (kk : ∀ (H1 : Heap) (locs1 : List Loc), va_P D vwCl ((am_ws cy B S g r N).set (am_off k i) (am_ad B S k i, .inr (k, (am_fs B S g r k i).set f v))) H1 → va_S (fun q => B ≤ q) H0 H1 locs1 → H1.size = H.size → W p l e R s mi args below meth c H1 locs1 cells slots Q (F0 mi (pc + 3) lc rest)) : W p l e R s mi args below meth c H locs cells slots Q (F0 mi pc lc (v :: .ref (am_ad B S k i) :: rest)) := by
  have hin : ∀ w ∈ u_ws (am_cn k) (am_TT k) (am_nf k), w ∈ am_gw := fun w hw => am_g (am_fw k hk9 w hw) (by
    obtain ⟨j, -, rfl⟩ := List.mem_map.mp hw
    unfold u_lay
    split <;> rfl)
  have hc : vwCl[k]? = some (am_cn k, am_TT k, am_nf k) := am_cl k hk9
  have he : (am_ws cy B S g r N)[am_off k i]? = some (am_ad B S k i, .inr (k, am_fs B S g r k i)) := by
    rw [am_wsA hok]; unfold am_en; rw [if_pos (am_akob k hk9)]
  have hlen : f < (am_fs B S g r k i).length := by unfold am_fs; rw [List.length_map, List.length_range]; exact hf
  have hap := va_apart (own := am_cn (am_oc m)) hts hin (am_ty k) (am_fty k hk9) (am_fnm k hk9) hK hc
  obtain ⟨r', h1, cell, q1, q2, q3, q4⟩ := hP _ _ he
  have hr : r' = (am_cn k, am_TT k, am_nf k) := Option.some.inj (h1.symm.trans hc)
  subst hr
  obtain ⟨hSl, hfc, kC, hkC, hkind⟩ := hK.1 k _ hc
  obtain ⟨cf, kf, fi, fd, hi, hsl⟩ := hSl f hf
  have hlay := hts _ (hin _ (u_in_lay hf))
  have hst := (u_facts hfc hkC (u_lays hts hin hf) hi).1
  have hlink : (Cond.fieldLink (am_cn (am_oc m)) x (am_cn k) (am_TT k f).2.1 (am_TT k f).2.2.1).before args s = true := hts _ (am_g (am_FL_ok _ hl) rfl)
  have hdec : (am_TT k f).1 = am_cn k := by
    have : ∀ k, k < 9 → ∀ f, f < am_nf k → (am_TT k f).1 = am_cn k := by decide +kernel
    exact this k hk9 f hf
  have hi' : s.fieldFound? (am_cn k) (am_TT k f).2.1 (am_TT k f).2.2.1 = some (cf, kf, fi, fd) := by
    have h9 := hi
    dsimp only at h9
    rw [hdec] at h9
    exact h9
  have fin : ∀ H' : Heap, H'[am_ad B S k i]? = some (cell.setSlot fd.slot v) → H'.size = H.size → (∀ q, q ≠ am_ad B S k i → H'[q]? = H[q]?) → W p l e R s mi args below meth c H' (locs ++ [⟨am_ad B S k i, fd.slot⟩]) cells slots Q (F0 mi (pc + 3) lc rest) := by
    intro H' e1 e2 e3
    rw [hsl] at e1
    exact kk H' _ (hP.set am_wsD he ⟨_, hc, t_OB.to (V := updV (vp_V (am_fs B S g r k i)) f v) ⟨_, e1, q2, q3, t_set q4 hap hf v⟩ (fun j _ => vp_updV_set hlen v j)⟩ e3) (hS.put e2 e3 (am_wsD.2 _ _ he)) e2
  have hsz : fd.slot < cell.slots.size := by rw [hsl]; exact k2_hasslot (q4 f hf)
  unfold u_lay at hlay
  rcases hfin with hf0 | ⟨hf1, hm2, hd2⟩
  · rw [if_neg (by rw [hf0]; decide)] at hlay
    have h6 := u_store hfc hkC hkind hlay hi (am_fty k hk9 f hf) hn hfit
    exact W.putK hx hb (f := fd) ⟨hown, hlink, ⟨_, _, _, hi'⟩, hst⟩ (by rw [q2]; exact h6) q1 q3 hsz rfl rfl hd fin
  · rw [if_pos hf1] at hlay
    have hcf : mi.cls = cf := by
      obtain ⟨_, _, c', _, _, _, -, -, hf', -, -, -, hown2, -⟩ := Cond.laysFinal_spec hlay
      have e1 : c' = cf := by have := hi.symm.trans hf'; simp at this; exact this.1.symm
      rw [hd2] at hown2
      rw [← e1]; exact Option.some.inj (hown.symm.trans hown2)
    have h6 := u_fits hfc hkC hkind (Or.inr hlay) hi (am_fty k hk9 f hf) hn hfit
    exact W.putFinK hx hb hown hlink hi' hst hcf (hini hm2) (by rw [q2]; exact h6) q1 q3 hsz rfl rfl hd fin
end AMH
