set_option maxRecDepth 20000 in
theorem gx_X1_setRopes_gIA : ∀ w ∈ (vx_atS RX1 33 gIA gNames).filter goodWord, w ∈ wsX1_setRopes := by decide +kernel
set_option maxRecDepth 20000 in
theorem gx_X1_untwist_gIS : ∀ w ∈ (vx_atS RX1 65 gIS gNames).filter goodWord, w ∈ wsX1_untwist := by decide +kernel
set_option maxRecDepth 20000 in
theorem gx_X1_swap_gIS : ∀ w ∈ (vx_atS RX1 65 gIS gNames).filter goodWord, w ∈ wsX1_swap := by decide +kernel
set_option maxRecDepth 20000 in
theorem gx_X1_about_gIS : ∀ w ∈ (vx_atS RX1 65 gIS gNames).filter goodWord, w ∈ wsX1_about := by decide +kernel
set_option maxRecDepth 20000 in
theorem gx_X1_cut_gIS : ∀ w ∈ (vx_atS RX1 65 gIS gNames).filter goodWord, w ∈ wsX1_cut := by decide +kernel
set_option maxRecDepth 20000 in
theorem gx_X1_crosses_gIA : ∀ w ∈ (vx_atS RX1 33 gIA gNames).filter goodWord, w ∈ wsX1_crosses := by decide +kernel
abbrev th_X1_setRopes_1_rm : Room := { frames := 6, cells := 1, slots := 6, locals := 90 }
set_option maxHeartbeats 4000000 in
set_option maxRecDepth 100000 in
/-- setRopes_1 -/
theorem th_X1_setRopes_1 (l : Launch) (htr : l.stackTraces = false) (dC : Nat → ClassId) (dI : Nat → Nat → Nat) (cA : ClassId) (sz : Nat) (x0 : Nat) (x : Int32) (hbad : x < 3 ∨ 6 < x) : vx_Met l yX1_setRopes wsX1_setRopes th_X1_setRopes_1_rm (va_Pc [.ref x0, .int x] (gBT (dC, dI) [(cA, .int)] [] sz)) gNo (gX gIA) 1 6 (fun _ => False) := by
  refine g_ofT (cc := cX1_setRopes) (maxL := 3) (ret := (some .int)) (XC := fun _ => gX gIA) (by decide) rfl (Nat.le_of_ble_eq_true rfl) (fun _ => False) (fun p e s m below meth c ls hx hb hml hts hown hlocks hno hP hK hl hsz hA hD hS hZ => ?_)
  have hl : lv_has ls 3 [(0, .ref x0), (1, .int x)] := hl
  refine lv_iload_n hx hb dX1_setRopes_0 rfl (lv_at hl 1 rfl) ?_
  refine lv_iconst (v := 3) hx hb dX1_setRopes_1 (by decide) ?_
  refine lv_icmp_lt (tgt := 11) hx hb dX1_setRopes_2 (by decide) (fun c2 => ?_) (fun c2 => ?_)
  · exact g_throw (text := "ropes is not 3 to 6") hx hb htr hown (by decide) (hts (.classLink RX1 29 "java/lang/IllegalArgumentException") (List.mem_of_getElem? (i := 1) rfl)) (hts (.initialized "java/lang/IllegalArgumentException") (List.mem_of_getElem? (i := 2) rfl)) (fun w h => hts w (gx_X1_setRopes_gIA w h)) g_badIA g_otIA hZ (by decide +kernel) hS (hl.1.trans hml.symm) dX1_setRopes_11 dX1_setRopes_14 dX1_setRopes_15 dX1_setRopes_17 dX1_setRopes_20 hno (Nat.le_of_ble_eq_true rfl) (Nat.le_of_ble_eq_true rfl) (Nat.le_of_ble_eq_true rfl) (Nat.le_of_ble_eq_true rfl) hlocks (fun t _ h1 h2 => gX_here h1 h2) (fun q hq => absurd hq List.not_mem_nil) (Nat.le_refl _) (Nat.le_refl _)
  · refine lv_iload_n hx hb dX1_setRopes_5 rfl (lv_at hl 1 rfl) ?_
    refine lv_bipush (v := 6) hx hb dX1_setRopes_6 (by decide) ?_
    refine lv_icmp_le (tgt := 21) hx hb dX1_setRopes_8 (by decide) (fun c8 => ?_) (fun c8 => ?_)
    · exact (hbad.elim c2 (fun q9 => Int32.not_lt.mpr c8 q9)).elim
    · exact g_throw (text := "ropes is not 3 to 6") hx hb htr hown (by decide) (hts (.classLink RX1 29 "java/lang/IllegalArgumentException") (List.mem_of_getElem? (i := 1) rfl)) (hts (.initialized "java/lang/IllegalArgumentException") (List.mem_of_getElem? (i := 2) rfl)) (fun w h => hts w (gx_X1_setRopes_gIA w h)) g_badIA g_otIA hZ (by decide +kernel) hS (hl.1.trans hml.symm) dX1_setRopes_11 dX1_setRopes_14 dX1_setRopes_15 dX1_setRopes_17 dX1_setRopes_20 hno (Nat.le_of_ble_eq_true rfl) (Nat.le_of_ble_eq_true rfl) (Nat.le_of_ble_eq_true rfl) (Nat.le_of_ble_eq_true rfl) hlocks (fun t _ h1 h2 => gX_here h1 h2) (fun q hq => absurd hq List.not_mem_nil) (Nat.le_refl _) (Nat.le_refl _)

abbrev th_X1_twist_1_rm : Room := { frames := 7, cells := 1, slots := 6, locals := 110 }
set_option maxHeartbeats 4000000 in
set_option maxRecDepth 100000 in
/-- twist_1 -/
theorem th_X1_twist_1 (l : Launch) (htr : l.stackTraces = false) (dC : Nat → ClassId) (dI : Nat → Nat → Nat) (cA : ClassId) (sz : Nat) (x0 : Nat) (wd : Int32) (x : Int32) (hbad : wd < 0 ∨ 1 < wd) : vx_Met l yX1_twist wsX1_twist th_X1_twist_1_rm (va_Pc [.ref x0, .int wd, .int x] (gBT (dC, dI) [(cA, .int)] [] sz)) gNo (gX gIO) 1 6 (fun _ => False) := by
  refine g_ofT (cc := cX1_twist) (maxL := 4) (ret := (some .int)) (XC := fun _ => gX gIO) (by decide) rfl (Nat.le_of_ble_eq_true rfl) (fun _ => False) (fun p e s m below meth c ls hx hb hml hts hown hlocks hno hP hK hl hsz hA hD hS hZ => ?_)
  have hl : lv_has ls 4 [(0, .ref x0), (1, .int wd), (2, .int x)] := hl
  refine lv_iload_n hx hb dX1_twist_0 rfl (lv_at hl 1 rfl) ?_
  exact g_TS (As := [.int wd]) (rest := []) ⟨hx, hb, hml, hown, hts⟩ (th_X1_requireWord l htr dC dI cA s.heap.size wd (by first | omega | (simp only [List.length_append, List.length_cons, List.length_nil, List.length_set, turnL_len]; omega))) (va_cwS 1 hts gX1_twist_X1_requireWord rfl rfl rfl hdX1_requireWord ⟨Nat.le_of_ble_eq_true rfl, Nat.le_of_ble_eq_true rfl⟩) hP hK hD hA hZ [] (by decide) rfl rfl hl.1 rfl (Nat.le_of_ble_eq_true rfl) dX1_twist_1 (Nat.le_of_ble_eq_true rfl) (Nat.le_of_ble_eq_true rfl) hlocks hno

abbrev th_X1_untwist_1_rm : Room := { frames := 7, cells := 1, slots := 6, locals := 110 }
set_option maxHeartbeats 4000000 in
set_option maxRecDepth 100000 in
/-- untwist_1 -/
theorem th_X1_untwist_1 (l : Launch) (htr : l.stackTraces = false) (dC : Nat → ClassId) (dI : Nat → Nat → Nat) (cA : ClassId) (sz : Nat) (x0 : Nat) (wd : Int32) (hbad : wd < 0 ∨ 1 < wd) : vx_Met l yX1_untwist wsX1_untwist th_X1_untwist_1_rm (va_Pc [.ref x0, .int wd] (gBT (dC, dI) [(cA, .int)] [] sz)) gNo (gX gIO) 1 6 (fun _ => False) := by
  refine g_ofT (cc := cX1_untwist) (maxL := 4) (ret := (some .int)) (XC := fun _ => gX gIO) (by decide) rfl (Nat.le_of_ble_eq_true rfl) (fun _ => False) (fun p e s m below meth c ls hx hb hml hts hown hlocks hno hP hK hl hsz hA hD hS hZ => ?_)
  have hl : lv_has ls 4 [(0, .ref x0), (1, .int wd)] := hl
  refine lv_iload_n hx hb dX1_untwist_0 rfl (lv_at hl 1 rfl) ?_
  exact g_TS (As := [.int wd]) (rest := []) ⟨hx, hb, hml, hown, hts⟩ (th_X1_requireWord l htr dC dI cA s.heap.size wd (by first | omega | (simp only [List.length_append, List.length_cons, List.length_nil, List.length_set, turnL_len]; omega))) (va_cwS 1 hts gX1_untwist_X1_requireWord rfl rfl rfl hdX1_requireWord ⟨Nat.le_of_ble_eq_true rfl, Nat.le_of_ble_eq_true rfl⟩) hP hK hD hA hZ [] (by decide) rfl rfl hl.1 rfl (Nat.le_of_ble_eq_true rfl) dX1_untwist_1 (Nat.le_of_ble_eq_true rfl) (Nat.le_of_ble_eq_true rfl) hlocks hno

abbrev th_X1_turn_1_rm : Room := { frames := 7, cells := 1, slots := 6, locals := 110 }
set_option maxHeartbeats 4000000 in
set_option maxRecDepth 100000 in
/-- turn_1 -/
theorem th_X1_turn_1 (l : Launch) (htr : l.stackTraces = false) (dC : Nat → ClassId) (dI : Nat → Nat → Nat) (cA : ClassId) (sz : Nat) (x0 : Nat) (wd : Int32) (hbad : wd < 0 ∨ 1 < wd) : vx_Met l yX1_turn wsX1_turn th_X1_turn_1_rm (va_Pc [.ref x0, .int wd] (gBT (dC, dI) [(cA, .int)] [] sz)) gNo (gX gIO) 1 6 (fun _ => False) := by
  refine g_ofT (cc := cX1_turn) (maxL := 3) (ret := (some .int)) (XC := fun _ => gX gIO) (by decide) rfl (Nat.le_of_ble_eq_true rfl) (fun _ => False) (fun p e s m below meth c ls hx hb hml hts hown hlocks hno hP hK hl hsz hA hD hS hZ => ?_)
  have hl : lv_has ls 3 [(0, .ref x0), (1, .int wd)] := hl
  refine lv_iload_n hx hb dX1_turn_0 rfl (lv_at hl 1 rfl) ?_
  exact g_TS (As := [.int wd]) (rest := []) ⟨hx, hb, hml, hown, hts⟩ (th_X1_requireWord l htr dC dI cA s.heap.size wd (by first | omega | (simp only [List.length_append, List.length_cons, List.length_nil, List.length_set, turnL_len]; omega))) (va_cwS 1 hts gX1_turn_X1_requireWord rfl rfl rfl hdX1_requireWord ⟨Nat.le_of_ble_eq_true rfl, Nat.le_of_ble_eq_true rfl⟩) hP hK hD hA hZ [] (by decide) rfl rfl hl.1 rfl (Nat.le_of_ble_eq_true rfl) dX1_turn_1 (Nat.le_of_ble_eq_true rfl) (Nat.le_of_ble_eq_true rfl) hlocks hno

abbrev th_X1_join_1_rm : Room := { frames := 7, cells := 1, slots := 6, locals := 110 }
set_option maxHeartbeats 4000000 in
set_option maxRecDepth 100000 in
/-- join_1 -/
theorem th_X1_join_1 (l : Launch) (htr : l.stackTraces = false) (dC : Nat → ClassId) (dI : Nat → Nat → Nat) (cA : ClassId) (sz : Nat) (x0 : Nat) (wd : Int32) (hbad : wd < 0 ∨ 1 < wd) : vx_Met l yX1_join wsX1_join th_X1_join_1_rm (va_Pc [.ref x0, .int wd] (gBT (dC, dI) [(cA, .int)] [] sz)) gNo (gX gIO) 1 6 (fun _ => False) := by
  refine g_ofT (cc := cX1_join) (maxL := 4) (ret := (some .int)) (XC := fun _ => gX gIO) (by decide) rfl (Nat.le_of_ble_eq_true rfl) (fun _ => False) (fun p e s m below meth c ls hx hb hml hts hown hlocks hno hP hK hl hsz hA hD hS hZ => ?_)
  have hl : lv_has ls 4 [(0, .ref x0), (1, .int wd)] := hl
  refine lv_iload_n hx hb dX1_join_0 rfl (lv_at hl 1 rfl) ?_
  exact g_TS (As := [.int wd]) (rest := []) ⟨hx, hb, hml, hown, hts⟩ (th_X1_requireWord l htr dC dI cA s.heap.size wd (by first | omega | (simp only [List.length_append, List.length_cons, List.length_nil, List.length_set, turnL_len]; omega))) (va_cwS 1 hts gX1_join_X1_requireWord rfl rfl rfl hdX1_requireWord ⟨Nat.le_of_ble_eq_true rfl, Nat.le_of_ble_eq_true rfl⟩) hP hK hD hA hZ [] (by decide) rfl rfl hl.1 rfl (Nat.le_of_ble_eq_true rfl) dX1_join_1 (Nat.le_of_ble_eq_true rfl) (Nat.le_of_ble_eq_true rfl) hlocks hno

abbrev th_X1_swap_1_rm : Room := { frames := 7, cells := 1, slots := 6, locals := 110 }
set_option maxHeartbeats 4000000 in
set_option maxRecDepth 100000 in
/-- swap_1 -/
theorem th_X1_swap_1 (l : Launch) (htr : l.stackTraces = false) (dC : Nat → ClassId) (dI : Nat → Nat → Nat) (cA : ClassId) (sz : Nat) (x0 : Nat) (wd : Int32) (x : Int32) (hbad : wd < 0 ∨ 1 < wd) : vx_Met l yX1_swap wsX1_swap th_X1_swap_1_rm (va_Pc [.ref x0, .int wd, .int x] (gBT (dC, dI) [(cA, .int)] [] sz)) gNo (gX gIO) 1 6 (fun _ => False) := by
  refine g_ofT (cc := cX1_swap) (maxL := 6) (ret := (some .int)) (XC := fun _ => gX gIO) (by decide) rfl (Nat.le_of_ble_eq_true rfl) (fun _ => False) (fun p e s m below meth c ls hx hb hml hts hown hlocks hno hP hK hl hsz hA hD hS hZ => ?_)
  have hl : lv_has ls 6 [(0, .ref x0), (1, .int wd), (2, .int x)] := hl
  refine lv_iload_n hx hb dX1_swap_0 rfl (lv_at hl 1 rfl) ?_
  exact g_TS (As := [.int wd]) (rest := []) ⟨hx, hb, hml, hown, hts⟩ (th_X1_requireWord l htr dC dI cA s.heap.size wd (by first | omega | (simp only [List.length_append, List.length_cons, List.length_nil, List.length_set, turnL_len]; omega))) (va_cwS 1 hts gX1_swap_X1_requireWord rfl rfl rfl hdX1_requireWord ⟨Nat.le_of_ble_eq_true rfl, Nat.le_of_ble_eq_true rfl⟩) hP hK hD hA hZ [] (by decide) rfl rfl hl.1 rfl (Nat.le_of_ble_eq_true rfl) dX1_swap_1 (Nat.le_of_ble_eq_true rfl) (Nat.le_of_ble_eq_true rfl) hlocks hno

abbrev th_X1_about_1_rm : Room := { frames := 7, cells := 1, slots := 6, locals := 110 }
set_option maxHeartbeats 4000000 in
set_option maxRecDepth 100000 in
/-- about_1 -/
theorem th_X1_about_1 (l : Launch) (htr : l.stackTraces = false) (dC : Nat → ClassId) (dI : Nat → Nat → Nat) (cA : ClassId) (sz : Nat) (x0 : Nat) (wd : Int32) (x : Int32) (hbad : wd < 0 ∨ 1 < wd) : vx_Met l yX1_about wsX1_about th_X1_about_1_rm (va_Pc [.ref x0, .int wd, .int x] (gBT (dC, dI) [(cA, .int)] [] sz)) gNo (gX gIO) 1 6 (fun _ => False) := by
  refine g_ofT (cc := cX1_about) (maxL := 6) (ret := (some .int)) (XC := fun _ => gX gIO) (by decide) rfl (Nat.le_of_ble_eq_true rfl) (fun _ => False) (fun p e s m below meth c ls hx hb hml hts hown hlocks hno hP hK hl hsz hA hD hS hZ => ?_)
  have hl : lv_has ls 6 [(0, .ref x0), (1, .int wd), (2, .int x)] := hl
  refine lv_iload_n hx hb dX1_about_0 rfl (lv_at hl 1 rfl) ?_
  exact g_TS (As := [.int wd]) (rest := []) ⟨hx, hb, hml, hown, hts⟩ (th_X1_requireWord l htr dC dI cA s.heap.size wd (by first | omega | (simp only [List.length_append, List.length_cons, List.length_nil, List.length_set, turnL_len]; omega))) (va_cwS 1 hts gX1_about_X1_requireWord rfl rfl rfl hdX1_requireWord ⟨Nat.le_of_ble_eq_true rfl, Nat.le_of_ble_eq_true rfl⟩) hP hK hD hA hZ [] (by decide) rfl rfl hl.1 rfl (Nat.le_of_ble_eq_true rfl) dX1_about_1 (Nat.le_of_ble_eq_true rfl) (Nat.le_of_ble_eq_true rfl) hlocks hno

abbrev th_X1_insert_1_rm : Room := { frames := 7, cells := 1, slots := 6, locals := 110 }
set_option maxHeartbeats 4000000 in
set_option maxRecDepth 100000 in
/-- insert_1 -/
theorem th_X1_insert_1 (l : Launch) (htr : l.stackTraces = false) (dC : Nat → ClassId) (dI : Nat → Nat → Nat) (cA : ClassId) (sz : Nat) (x0 : Nat) (wd : Int32) (x : Int32) (y : Int32) (hbad : wd < 0 ∨ 1 < wd) : vx_Met l yX1_insert wsX1_insert th_X1_insert_1_rm (va_Pc [.ref x0, .int wd, .int x, .int y] (gBT (dC, dI) [(cA, .int)] [] sz)) gNo (gX gIO) 1 6 (fun _ => False) := by
  refine g_ofT (cc := cX1_insert) (maxL := 5) (ret := (some .int)) (XC := fun _ => gX gIO) (by decide) rfl (Nat.le_of_ble_eq_true rfl) (fun _ => False) (fun p e s m below meth c ls hx hb hml hts hown hlocks hno hP hK hl hsz hA hD hS hZ => ?_)
  have hl : lv_has ls 5 [(0, .ref x0), (1, .int wd), (2, .int x), (3, .int y)] := hl
  refine lv_iload_n hx hb dX1_insert_0 rfl (lv_at hl 1 rfl) ?_
  exact g_TS (As := [.int wd]) (rest := []) ⟨hx, hb, hml, hown, hts⟩ (th_X1_requireWord l htr dC dI cA s.heap.size wd (by first | omega | (simp only [List.length_append, List.length_cons, List.length_nil, List.length_set, turnL_len]; omega))) (va_cwS 1 hts gX1_insert_X1_requireWord rfl rfl rfl hdX1_requireWord ⟨Nat.le_of_ble_eq_true rfl, Nat.le_of_ble_eq_true rfl⟩) hP hK hD hA hZ [] (by decide) rfl rfl hl.1 rfl (Nat.le_of_ble_eq_true rfl) dX1_insert_1 (Nat.le_of_ble_eq_true rfl) (Nat.le_of_ble_eq_true rfl) hlocks hno

abbrev th_X1_cut_1_rm : Room := { frames := 7, cells := 1, slots := 6, locals := 110 }
set_option maxHeartbeats 4000000 in
set_option maxRecDepth 100000 in
/-- cut_1 -/
theorem th_X1_cut_1 (l : Launch) (htr : l.stackTraces = false) (dC : Nat → ClassId) (dI : Nat → Nat → Nat) (cA : ClassId) (sz : Nat) (x0 : Nat) (wd : Int32) (hbad : wd < 0 ∨ 1 < wd) : vx_Met l yX1_cut wsX1_cut th_X1_cut_1_rm (va_Pc [.ref x0, .int wd] (gBT (dC, dI) [(cA, .int)] [] sz)) gNo (gX gIO) 1 6 (fun _ => False) := by
  refine g_ofT (cc := cX1_cut) (maxL := 5) (ret := (some .int)) (XC := fun _ => gX gIO) (by decide) rfl (Nat.le_of_ble_eq_true rfl) (fun _ => False) (fun p e s m below meth c ls hx hb hml hts hown hlocks hno hP hK hl hsz hA hD hS hZ => ?_)
  have hl : lv_has ls 5 [(0, .ref x0), (1, .int wd)] := hl
  refine lv_iload_n hx hb dX1_cut_0 rfl (lv_at hl 1 rfl) ?_
  exact g_TS (As := [.int wd]) (rest := []) ⟨hx, hb, hml, hown, hts⟩ (th_X1_requireWord l htr dC dI cA s.heap.size wd (by first | omega | (simp only [List.length_append, List.length_cons, List.length_nil, List.length_set, turnL_len]; omega))) (va_cwS 1 hts gX1_cut_X1_requireWord rfl rfl rfl hdX1_requireWord ⟨Nat.le_of_ble_eq_true rfl, Nat.le_of_ble_eq_true rfl⟩) hP hK hD hA hZ [] (by decide) rfl rfl hl.1 rfl (Nat.le_of_ble_eq_true rfl) dX1_cut_1 (Nat.le_of_ble_eq_true rfl) (Nat.le_of_ble_eq_true rfl) hlocks hno

abbrev th_X1_letter_1_rm : Room := { frames := 7, cells := 1, slots := 6, locals := 110 }
set_option maxHeartbeats 4000000 in
set_option maxRecDepth 100000 in
/-- letter_1 -/
theorem th_X1_letter_1 (l : Launch) (htr : l.stackTraces = false) (dC : Nat → ClassId) (dI : Nat → Nat → Nat) (cA : ClassId) (sz : Nat) (x0 : Nat) (wd : Int32) (x : Int32) (hbad : wd < 0 ∨ 1 < wd) : vx_Met l yX1_letter wsX1_letter th_X1_letter_1_rm (va_Pc [.ref x0, .int wd, .int x] (gBT (dC, dI) [(cA, .int)] [] sz)) gNo (gX gIO) 1 6 (fun _ => False) := by
  refine g_ofT (cc := cX1_letter) (maxL := 4) (ret := (some .int)) (XC := fun _ => gX gIO) (by decide) rfl (Nat.le_of_ble_eq_true rfl) (fun _ => False) (fun p e s m below meth c ls hx hb hml hts hown hlocks hno hP hK hl hsz hA hD hS hZ => ?_)
  have hl : lv_has ls 4 [(0, .ref x0), (1, .int wd), (2, .int x)] := hl
  refine lv_iload_n hx hb dX1_letter_0 rfl (lv_at hl 1 rfl) ?_
  exact g_TS (As := [.int wd]) (rest := []) ⟨hx, hb, hml, hown, hts⟩ (th_X1_requireWord l htr dC dI cA s.heap.size wd (by first | omega | (simp only [List.length_append, List.length_cons, List.length_nil, List.length_set, turnL_len]; omega))) (va_cwS 1 hts gX1_letter_X1_requireWord rfl rfl rfl hdX1_requireWord ⟨Nat.le_of_ble_eq_true rfl, Nat.le_of_ble_eq_true rfl⟩) hP hK hD hA hZ [] (by decide) rfl rfl hl.1 rfl (Nat.le_of_ble_eq_true rfl) dX1_letter_1 (Nat.le_of_ble_eq_true rfl) (Nat.le_of_ble_eq_true rfl) hlocks hno

abbrev th_X1_end_1_rm : Room := { frames := 7, cells := 1, slots := 6, locals := 110 }
set_option maxHeartbeats 4000000 in
set_option maxRecDepth 100000 in
/-- end_1 -/
theorem th_X1_end_1 (l : Launch) (htr : l.stackTraces = false) (dC : Nat → ClassId) (dI : Nat → Nat → Nat) (cA : ClassId) (sz : Nat) (x0 : Nat) (wd : Int32) (x : Int32) (hbad : wd < 0 ∨ 1 < wd) : vx_Met l yX1_end wsX1_end th_X1_end_1_rm (va_Pc [.ref x0, .int wd, .int x] (gBT (dC, dI) [(cA, .int)] [] sz)) gNo (gX gIO) 1 6 (fun _ => False) := by
  refine g_ofT (cc := cX1_end) (maxL := 3) (ret := (some .int)) (XC := fun _ => gX gIO) (by decide) rfl (Nat.le_of_ble_eq_true rfl) (fun _ => False) (fun p e s m below meth c ls hx hb hml hts hown hlocks hno hP hK hl hsz hA hD hS hZ => ?_)
  have hl : lv_has ls 3 [(0, .ref x0), (1, .int wd), (2, .int x)] := hl
  refine lv_iload_n hx hb dX1_end_0 rfl (lv_at hl 1 rfl) ?_
  exact g_TS (As := [.int wd]) (rest := []) ⟨hx, hb, hml, hown, hts⟩ (th_X1_requireWord l htr dC dI cA s.heap.size wd (by first | omega | (simp only [List.length_append, List.length_cons, List.length_nil, List.length_set, turnL_len]; omega))) (va_cwS 1 hts gX1_end_X1_requireWord rfl rfl rfl hdX1_requireWord ⟨Nat.le_of_ble_eq_true rfl, Nat.le_of_ble_eq_true rfl⟩) hP hK hD hA hZ [] (by decide) rfl rfl hl.1 rfl (Nat.le_of_ble_eq_true rfl) dX1_end_1 (Nat.le_of_ble_eq_true rfl) (Nat.le_of_ble_eq_true rfl) hlocks hno

abbrev th_X1_crosses_1_rm : Room := { frames := 7, cells := 1, slots := 6, locals := 110 }
set_option maxHeartbeats 4000000 in
set_option maxRecDepth 100000 in
/-- crosses_1 -/
theorem th_X1_crosses_1 (l : Launch) (htr : l.stackTraces = false) (dC : Nat → ClassId) (dI : Nat → Nat → Nat) (cA : ClassId) (sz : Nat) (x0 : Nat) (wd : Int32) (x : Int32) (y : Int32) (hbad : wd < 0 ∨ 1 < wd) : vx_Met l yX1_crosses wsX1_crosses th_X1_crosses_1_rm (va_Pc [.ref x0, .int wd, .int x, .int y] (gBT (dC, dI) [(cA, .int)] [] sz)) gNo (gX gIO) 1 6 (fun _ => False) := by
  refine g_ofT (cc := cX1_crosses) (maxL := 4) (ret := (some .int)) (XC := fun _ => gX gIO) (by decide) rfl (Nat.le_of_ble_eq_true rfl) (fun _ => False) (fun p e s m below meth c ls hx hb hml hts hown hlocks hno hP hK hl hsz hA hD hS hZ => ?_)
  have hl : lv_has ls 4 [(0, .ref x0), (1, .int wd), (2, .int x), (3, .int y)] := hl
  refine lv_iload_n hx hb dX1_crosses_0 rfl (lv_at hl 1 rfl) ?_
  exact g_TS (As := [.int wd]) (rest := []) ⟨hx, hb, hml, hown, hts⟩ (th_X1_requireWord l htr dC dI cA s.heap.size wd (by first | omega | (simp only [List.length_append, List.length_cons, List.length_nil, List.length_set, turnL_len]; omega))) (va_cwS 1 hts gX1_crosses_X1_requireWord rfl rfl rfl hdX1_requireWord ⟨Nat.le_of_ble_eq_true rfl, Nat.le_of_ble_eq_true rfl⟩) hP hK hD hA hZ [] (by decide) rfl rfl hl.1 rfl (Nat.le_of_ble_eq_true rfl) dX1_crosses_1 (Nat.le_of_ble_eq_true rfl) (Nat.le_of_ble_eq_true rfl) hlocks hno

abbrev th_X1_handle_1_rm : Room := { frames := 7, cells := 1, slots := 6, locals := 110 }
set_option maxHeartbeats 4000000 in
set_option maxRecDepth 100000 in
/-- handle_1 -/
theorem th_X1_handle_1 (l : Launch) (htr : l.stackTraces = false) (dC : Nat → ClassId) (dI : Nat → Nat → Nat) (cA : ClassId) (sz : Nat) (x0 : Nat) (wd : Int32) (x : Int32) (hbad : wd < 0 ∨ 1 < wd) : vx_Met l yX1_handle wsX1_handle th_X1_handle_1_rm (va_Pc [.ref x0, .int wd, .int x] (gBT (dC, dI) [(cA, .int)] [] sz)) gNo (gX gIO) 1 6 (fun _ => False) := by
  refine g_ofT (cc := cX1_handle) (maxL := 3) (ret := (some .int)) (XC := fun _ => gX gIO) (by decide) rfl (Nat.le_of_ble_eq_true rfl) (fun _ => False) (fun p e s m below meth c ls hx hb hml hts hown hlocks hno hP hK hl hsz hA hD hS hZ => ?_)
  have hl : lv_has ls 3 [(0, .ref x0), (1, .int wd), (2, .int x)] := hl
  refine lv_iload_n hx hb dX1_handle_0 rfl (lv_at hl 1 rfl) ?_
  exact g_TS (As := [.int wd]) (rest := []) ⟨hx, hb, hml, hown, hts⟩ (th_X1_requireWord l htr dC dI cA s.heap.size wd (by first | omega | (simp only [List.length_append, List.length_cons, List.length_nil, List.length_set, turnL_len]; omega))) (va_cwS 1 hts gX1_handle_X1_requireWord rfl rfl rfl hdX1_requireWord ⟨Nat.le_of_ble_eq_true rfl, Nat.le_of_ble_eq_true rfl⟩) hP hK hD hA hZ [] (by decide) rfl rfl hl.1 rfl (Nat.le_of_ble_eq_true rfl) dX1_handle_1 (Nat.le_of_ble_eq_true rfl) (Nat.le_of_ble_eq_true rfl) hlocks hno

abbrev th_X1_plain_1_rm : Room := { frames := 7, cells := 1, slots := 6, locals := 110 }
set_option maxHeartbeats 4000000 in
set_option maxRecDepth 100000 in
/-- plain_1 -/
theorem th_X1_plain_1 (l : Launch) (htr : l.stackTraces = false) (dC : Nat → ClassId) (dI : Nat → Nat → Nat) (cA : ClassId) (sz : Nat) (x0 : Nat) (wd : Int32) (x : Int32) (hbad : wd < 0 ∨ 1 < wd) : vx_Met l yX1_plain wsX1_plain th_X1_plain_1_rm (va_Pc [.ref x0, .int wd, .int x] (gBT (dC, dI) [(cA, .int)] [] sz)) gNo (gX gIO) 1 6 (fun _ => False) := by
  refine g_ofT (cc := cX1_plain) (maxL := 3) (ret := (some .int)) (XC := fun _ => gX gIO) (by decide) rfl (Nat.le_of_ble_eq_true rfl) (fun _ => False) (fun p e s m below meth c ls hx hb hml hts hown hlocks hno hP hK hl hsz hA hD hS hZ => ?_)
  have hl : lv_has ls 3 [(0, .ref x0), (1, .int wd), (2, .int x)] := hl
  refine lv_iload_n hx hb dX1_plain_0 rfl (lv_at hl 1 rfl) ?_
  exact g_TS (As := [.int wd]) (rest := []) ⟨hx, hb, hml, hown, hts⟩ (th_X1_requireWord l htr dC dI cA s.heap.size wd (by first | omega | (simp only [List.length_append, List.length_cons, List.length_nil, List.length_set, turnL_len]; omega))) (va_cwS 1 hts gX1_plain_X1_requireWord rfl rfl rfl hdX1_requireWord ⟨Nat.le_of_ble_eq_true rfl, Nat.le_of_ble_eq_true rfl⟩) hP hK hD hA hZ [] (by decide) rfl rfl hl.1 rfl (Nat.le_of_ble_eq_true rfl) dX1_plain_1 (Nat.le_of_ble_eq_true rfl) (Nat.le_of_ble_eq_true rfl) hlocks hno

abbrev th_X1_advise_1_rm : Room := { frames := 7, cells := 1, slots := 6, locals := 110 }
abbrev th_X1_count_1_rm : Room := { frames := 7, cells := 1, slots := 6, locals := 111 }
set_option maxHeartbeats 4000000 in
set_option maxRecDepth 100000 in
/-- count_1 -/
theorem th_X1_count_1 (l : Launch) (htr : l.stackTraces = false) (dC : Nat → ClassId) (dI : Nat → Nat → Nat) (cA : ClassId) (sz : Nat) (x0 : Nat) (x : Int32) (hbad : x < 0 ∨ 5 ≤ x) : vx_Met l yX1_count wsX1_count th_X1_count_1_rm (va_Pc [.ref x0, .int x] (gBT (dC, dI) [(cA, .int)] [] sz)) gNo (gX gIO) 1 6 (fun _ => False) := by
  refine g_ofT (cc := cX1_count) (maxL := 2) (ret := (some .int)) (XC := fun _ => gX gIO) (by decide) rfl (Nat.le_of_ble_eq_true rfl) (fun _ => False) (fun p e s m below meth c ls hx hb hml hts hown hlocks hno hP hK hl hsz hA hD hS hZ => ?_)
  have hl : lv_has ls 2 [(0, .ref x0), (1, .int x)] := hl
  refine lv_iload_n hx hb dX1_count_0 rfl (lv_at hl 1 rfl) ?_
  refine lv_iconst (v := 5) hx hb dX1_count_1 (by decide) ?_
  exact g_TS (As := [.int x, .int 5]) (rest := []) ⟨hx, hb, hml, hown, hts⟩ (th_X1_requireAnswer l htr dC dI cA s.heap.size x 5 (by first | omega | (simp only [List.length_append, List.length_cons, List.length_nil, List.length_set, turnL_len]; omega))) (va_cwS 2 hts gX1_count_X1_requireAnswer rfl rfl rfl hdX1_requireAnswer ⟨Nat.le_of_ble_eq_true rfl, Nat.le_of_ble_eq_true rfl⟩) hP hK hD hA hZ [] (by decide) rfl rfl hl.1 rfl (Nat.le_of_ble_eq_true rfl) dX1_count_2 (Nat.le_of_ble_eq_true rfl) (Nat.le_of_ble_eq_true rfl) hlocks hno

abbrev th_X1_twist_2_0_rm : Room := { frames := 7, cells := 1, slots := 6, locals := 111 }
set_option maxHeartbeats 4000000 in
set_option maxRecDepth 100000 in
/-- twist_2_0 -/
theorem th_X1_twist_2_0 (l : Launch) (htr : l.stackTraces = false) (dC : Nat → ClassId) (dI : Nat → Nat → Nat) (cA : ClassId) (sz : Nat) (x0 : Nat) (r0 : Nat) (r1 : Nat) (r2 : Nat) (r3 : Nat) (rn : Nat) (x : Int32) (hbad : x = 0 ∨ x ≤ -nI rn ∨ nI rn ≤ x) : vx_Met l yX1_twist wsX1_twist th_X1_twist_2_0_rm (va_Pc [.ref x0, .int (nI 0), .int x] (gBT (dC, dI) [(cA, .int)] [(x0, .inr (1, [.ref r0, .ref r1, .ref r2, .ref r3, .int (nI rn)]))] sz)) gNo (gX gIA) 1 6 (fun _ => False) := by
  refine g_ofT (cc := cX1_twist) (maxL := 4) (ret := (some .int)) (XC := fun _ => gX gIA) (by decide) rfl (Nat.le_of_ble_eq_true rfl) (fun _ => False) (fun p e s m below meth c ls hx hb hml hts hown hlocks hno hP hK hl hsz hA hD hS hZ => ?_)
  have hl : lv_has ls 4 [(0, .ref x0), (1, .int (nI 0)), (2, .int x)] := hl
  refine lv_iload_n hx hb dX1_twist_0 rfl (lv_at hl 1 rfl) ?_
  refine g_RSv (As := [.int (nI 0)]) (rest := []) ⟨hx, hb, hml, hown, hts⟩ (mt_X1_requireWord l dC dI cA s.heap.size 0 (by first | omega | (simp only [List.length_append, List.length_cons, List.length_nil, List.length_set, turnL_len]; omega))) (va_cwS 1 hts gX1_twist_X1_requireWord rfl rfl rfl hdX1_requireWord ⟨Nat.le_of_ble_eq_true rfl, Nat.le_of_ble_eq_true rfl⟩) hP hK hD [] (by decide) rfl rfl hl.1 rfl (Nat.le_of_ble_eq_true rfl) dX1_twist_1 (Nat.zero_le _) (Nat.zero_le _) ?_
  refine lv_aload_n hx hb dX1_twist_4 rfl (lv_at hl 0 rfl) ?_
  refine lv_iload_n hx hb dX1_twist_5 rfl (lv_at hl 2 rfl) ?_
  exact g_TV (As := [.int x]) (rest := []) ⟨hx, hb, hml, hown, hts⟩ (th_X1_requireLetter l htr dC dI cA s.heap.size x0 r0 r1 r2 r3 (nI rn) x (by first | omega | (simp only [List.length_append, List.length_cons, List.length_nil, List.length_set, turnL_len]; omega))) (cwV 1 hts gX1_twist_X1_requireLetter rfl rfl rfl hdX1_requireLetter ⟨Nat.le_of_ble_eq_true rfl, Nat.le_of_ble_eq_true rfl⟩) hP hK hD hA hZ [0] (by decide) rfl (va_recv hK hP (ci := 1) (q0 := 0) rfl rfl) rfl hl.1 rfl (Nat.le_of_ble_eq_true rfl) dX1_twist_6 (Nat.le_of_ble_eq_true rfl) (Nat.le_of_ble_eq_true rfl) hlocks hno

abbrev th_X1_twist_3_0_rm : Room := { frames := 7, cells := 1, slots := 6, locals := 111 }
set_option maxHeartbeats 4000000 in
set_option maxRecDepth 100000 in
/-- twist_3_0 -/
theorem th_X1_twist_3_0 (l : Launch) (htr : l.stackTraces = false) (dC : Nat → ClassId) (dI : Nat → Nat → Nat) (cA : ClassId) (sz : Nat) (x0 : Nat) (r0 : Nat) (r1 : Nat) (r2 : Nat) (r3 : Nat) (rn : Nat) (a0 : Nat) (L : List Int32) (f : Nat → Int32) (x : Int32) (hR : RI L f) (h0 : ¬ x = 0) (h1 : ¬ x ≤ -nI rn) (h2 : x < nI rn) (hk : 30 ≤ L.length) : vx_Met l yX1_twist wsX1_twist th_X1_twist_3_0_rm (va_Pc [.ref x0, .int (nI 0), .int x] (gBT (dC, dI) [(cA, .int)] [(x0, .inr (1, [.ref r0, .ref r1, .ref r2, .ref r3, .int (nI rn)])), (r0, .inr (0, [.ref a0, .int (nI L.length)])), (a0, .inl (cA, (100, .inl f)))] sz)) gNo (gX gIS) 1 6 (fun _ => False) := by
  refine g_ofT (cc := cX1_twist) (maxL := 4) (ret := (some .int)) (XC := fun _ => gX gIS) (by decide) rfl (Nat.le_of_ble_eq_true rfl) (fun _ => False) (fun p e s m below meth c ls hx hb hml hts hown hlocks hno hP hK hl hsz hA hD hS hZ => ?_)
  have hl : lv_has ls 4 [(0, .ref x0), (1, .int (nI 0)), (2, .int x)] := hl
  have hL := hR.1
  refine lv_iload_n hx hb dX1_twist_0 rfl (lv_at hl 1 rfl) ?_
  refine g_RSv (As := [.int (nI 0)]) (rest := []) ⟨hx, hb, hml, hown, hts⟩ (mt_X1_requireWord l dC dI cA s.heap.size 0 (by first | omega | (simp only [List.length_append, List.length_cons, List.length_nil, List.length_set, turnL_len]; omega))) (va_cwS 1 hts gX1_twist_X1_requireWord rfl rfl rfl hdX1_requireWord ⟨Nat.le_of_ble_eq_true rfl, Nat.le_of_ble_eq_true rfl⟩) hP hK hD [] (by decide) rfl rfl hl.1 rfl (Nat.le_of_ble_eq_true rfl) dX1_twist_1 (Nat.zero_le _) (Nat.zero_le _) ?_
  refine lv_aload_n hx hb dX1_twist_4 rfl (lv_at hl 0 rfl) ?_
  refine lv_iload_n hx hb dX1_twist_5 rfl (lv_at hl 2 rfl) ?_
  refine g_RVv (As := [.int x]) (rest := []) ⟨hx, hb, hml, hown, hts⟩ (mt_X1_requireLetter l dC dI cA s.heap.size x0 r0 r1 r2 r3 (nI rn) x h0 h1 h2) (cwV 1 hts gX1_twist_X1_requireLetter rfl rfl rfl hdX1_requireLetter ⟨Nat.le_of_ble_eq_true rfl, Nat.le_of_ble_eq_true rfl⟩) hP hK hD [0] (by decide) rfl (va_recv hK hP (ci := 1) (q0 := 0) rfl rfl) rfl hl.1 rfl (Nat.le_of_ble_eq_true rfl) dX1_twist_6 (Nat.zero_le _) (Nat.zero_le _) ?_
  refine lv_aload_n hx hb dX1_twist_9 rfl (lv_at hl 0 rfl) ?_
  refine lv_iload_n hx hb dX1_twist_10 rfl (lv_at hl 1 rfl) ?_
  refine g_RVr (As := [.int (nI 0)]) (rest := []) ⟨hx, hb, hml, hown, hts⟩ (mt_X1_rowOf0 l dC dI cA s.heap.size x0 r0 r1 r2 r3 (nI rn)) (cwV 1 hts gX1_twist_X1_rowOf rfl rfl rfl hdX1_rowOf ⟨Nat.le_of_ble_eq_true rfl, Nat.le_of_ble_eq_true rfl⟩) hP hK hD [0] (by decide) rfl (va_recv hK hP (ci := 1) (q0 := 0) rfl rfl) rfl hl.1 rfl (Nat.le_of_ble_eq_true rfl) dX1_twist_11 (Nat.zero_le _) (Nat.zero_le _) ?_
  refine lv_astore_n (lv' := [(3, .ref r0), (0, .ref x0), (1, .int (nI 0)), (2, .int x)]) hx hb dX1_twist_14 rfl hl (by decide) rfl (fun ls hl => ?_)
  refine lv_aload_n hx hb dX1_twist_15 rfl (lv_at hl 0 rfl) ?_
  refine lv_iconst (v := 1) hx hb dX1_twist_16 (by decide) ?_
  exact g_TS (As := [.ref r0, .int 1]) (rest := []) ⟨hx, hb, hml, hown, hts⟩ (th_X1_requireRoom l htr dC dI cA s.heap.size r0 a0 L f 1 (room_no L.length 1 (by omega) (by omega))) (va_cwS 2 hts gX1_twist_X1_requireRoom rfl rfl rfl hdX1_requireRoom ⟨Nat.le_of_ble_eq_true rfl, Nat.le_of_ble_eq_true rfl⟩) hP hK hD hA hZ [1, 2] (by decide) rfl rfl hl.1 rfl (Nat.le_of_ble_eq_true rfl) dX1_twist_17 (Nat.le_of_ble_eq_true rfl) (Nat.le_of_ble_eq_true rfl) hlocks hno

abbrev th_X1_untwist_2_0_rm : Room := { frames := 6, cells := 1, slots := 6, locals := 90 }
set_option maxHeartbeats 4000000 in
set_option maxRecDepth 100000 in
/-- untwist_2_0 -/
theorem th_X1_untwist_2_0 (l : Launch) (htr : l.stackTraces = false) (dC : Nat → ClassId) (dI : Nat → Nat → Nat) (cA : ClassId) (sz : Nat) (x0 : Nat) (r0 : Nat) (r1 : Nat) (r2 : Nat) (r3 : Nat) (rn : Nat) (a0 : Nat) (L : List Int32) (f : Nat → Int32) (hR : RI L f) (hk : L.length = 0) : vx_Met l yX1_untwist wsX1_untwist th_X1_untwist_2_0_rm (va_Pc [.ref x0, .int (nI 0)] (gBT (dC, dI) [(cA, .int)] [(x0, .inr (1, [.ref r0, .ref r1, .ref r2, .ref r3, .int (nI rn)])), (r0, .inr (0, [.ref a0, .int (nI L.length)])), (a0, .inl (cA, (100, .inl f)))] sz)) gNo (gX gIS) 1 6 (fun _ => False) := by
  refine g_ofT (cc := cX1_untwist) (maxL := 4) (ret := (some .int)) (XC := fun _ => gX gIS) (by decide) rfl (Nat.le_of_ble_eq_true rfl) (fun _ => False) (fun p e s m below meth c ls hx hb hml hts hown hlocks hno hP hK hl hsz hA hD hS hZ => ?_)
  have hl : lv_has ls 4 [(0, .ref x0), (1, .int (nI 0))] := hl
  have hL := hR.1
  refine lv_iload_n hx hb dX1_untwist_0 rfl (lv_at hl 1 rfl) ?_
  refine g_RSv (As := [.int (nI 0)]) (rest := []) ⟨hx, hb, hml, hown, hts⟩ (mt_X1_requireWord l dC dI cA s.heap.size 0 (by first | omega | (simp only [List.length_append, List.length_cons, List.length_nil, List.length_set, turnL_len]; omega))) (va_cwS 1 hts gX1_untwist_X1_requireWord rfl rfl rfl hdX1_requireWord ⟨Nat.le_of_ble_eq_true rfl, Nat.le_of_ble_eq_true rfl⟩) hP hK hD [] (by decide) rfl rfl hl.1 rfl (Nat.le_of_ble_eq_true rfl) dX1_untwist_1 (Nat.zero_le _) (Nat.zero_le _) ?_
  refine lv_aload_n hx hb dX1_untwist_4 rfl (lv_at hl 0 rfl) ?_
  refine lv_iload_n hx hb dX1_untwist_5 rfl (lv_at hl 1 rfl) ?_
  refine g_RVr (As := [.int (nI 0)]) (rest := []) ⟨hx, hb, hml, hown, hts⟩ (mt_X1_rowOf0 l dC dI cA s.heap.size x0 r0 r1 r2 r3 (nI rn)) (cwV 1 hts gX1_untwist_X1_rowOf rfl rfl rfl hdX1_rowOf ⟨Nat.le_of_ble_eq_true rfl, Nat.le_of_ble_eq_true rfl⟩) hP hK hD [0] (by decide) rfl (va_recv hK hP (ci := 1) (q0 := 0) rfl rfl) rfl hl.1 rfl (Nat.le_of_ble_eq_true rfl) dX1_untwist_6 (Nat.zero_le _) (Nat.zero_le _) ?_
  refine lv_astore_n (lv' := [(2, .ref r0), (0, .ref x0), (1, .int (nI 0))]) hx hb dX1_untwist_9 rfl hl (by decide) rfl (fun ls hl => ?_)
  refine lv_aload_n hx hb dX1_untwist_10 rfl (lv_at hl 0 rfl) ?_
  refine g_RVi (As := []) (rest := []) ⟨hx, hb, hml, hown, hts⟩ (mt_X0_size l dC dI cA s.heap.size r0 a0 (nI L.length) f) (cwV 0 hts gX1_untwist_X0_size rfl rfl rfl hdX0_size ⟨Nat.le_of_ble_eq_true rfl, Nat.le_of_ble_eq_true rfl⟩) hP hK hD [1, 2] (by decide) rfl (va_recv hK hP (ci := 0) (q0 := 1) rfl rfl) rfl hl.1 rfl (Nat.le_of_ble_eq_true rfl) dX1_untwist_11 (Nat.zero_le _) (Nat.zero_le _) ?_
  refine lv_if_ne (tgt := 27) hx hb dX1_untwist_14 (by decide) (fun c14 => ?_) (fun c14 => ?_)
  · exact absurd (g_neT L.length 0 (by omega) (by omega) c14) (by omega)
  · have c14 : L.length = 0 := g_neF L.length 0 (by omega) (by omega) c14
    exact g_throw (text := "the word is empty") hx hb htr hown (by decide) (hts (.classLink RX1 61 "java/lang/IllegalStateException") (List.mem_of_getElem? (i := 1) rfl)) (hts (.initialized "java/lang/IllegalStateException") (List.mem_of_getElem? (i := 2) rfl)) (fun w h => hts w (gx_X1_untwist_gIS w h)) g_badIS g_otIS hZ (by decide +kernel) hS (hl.1.trans hml.symm) dX1_untwist_17 dX1_untwist_20 dX1_untwist_21 dX1_untwist_23 dX1_untwist_26 hno (Nat.le_of_ble_eq_true rfl) (Nat.le_of_ble_eq_true rfl) (Nat.le_of_ble_eq_true rfl) (Nat.le_of_ble_eq_true rfl) hlocks (fun t _ h1 h2 => gX_here h1 h2) (fun q hq => absurd hq List.not_mem_nil) (Nat.le_refl _) (Nat.le_refl _)

abbrev th_X1_join_2_0_rm : Room := { frames := 7, cells := 1, slots := 6, locals := 111 }
set_option maxHeartbeats 4000000 in
set_option maxRecDepth 100000 in
/-- join_2_0 -/
theorem th_X1_join_2_0 (l : Launch) (htr : l.stackTraces = false) (dC : Nat → ClassId) (dI : Nat → Nat → Nat) (cA : ClassId) (sz : Nat) (x0 : Nat) (r0 : Nat) (r1 : Nat) (r2 : Nat) (r3 : Nat) (rn : Nat) (a0 : Nat) (a1 : Nat) (L : List Int32) (f : Nat → Int32) (M : List Int32) (f9 : Nat → Int32) (hR : RI L f) (hR9 : RI M f9) (hk : 30 < L.length + M.length) : vx_Met l yX1_join wsX1_join th_X1_join_2_0_rm (va_Pc [.ref x0, .int (nI 0)] (gBT (dC, dI) [(cA, .int)] [(x0, .inr (1, [.ref r0, .ref r1, .ref r2, .ref r3, .int (nI rn)])), (r0, .inr (0, [.ref a0, .int (nI L.length)])), (a0, .inl (cA, (100, .inl f))), (r1, .inr (0, [.ref a1, .int (nI M.length)])), (a1, .inl (cA, (100, .inl f9)))] sz)) gNo (gX gIS) 1 6 (fun _ => False) := by
  refine g_ofT (cc := cX1_join) (maxL := 4) (ret := (some .int)) (XC := fun _ => gX gIS) (by decide) rfl (Nat.le_of_ble_eq_true rfl) (fun _ => False) (fun p e s m below meth c ls hx hb hml hts hown hlocks hno hP hK hl hsz hA hD hS hZ => ?_)
  have hl : lv_has ls 4 [(0, .ref x0), (1, .int (nI 0))] := hl
  have hL := hR.1
  have hM := hR9.1
  refine lv_iload_n hx hb dX1_join_0 rfl (lv_at hl 1 rfl) ?_
  refine g_RSv (As := [.int (nI 0)]) (rest := []) ⟨hx, hb, hml, hown, hts⟩ (mt_X1_requireWord l dC dI cA s.heap.size 0 (by first | omega | (simp only [List.length_append, List.length_cons, List.length_nil, List.length_set, turnL_len]; omega))) (va_cwS 1 hts gX1_join_X1_requireWord rfl rfl rfl hdX1_requireWord ⟨Nat.le_of_ble_eq_true rfl, Nat.le_of_ble_eq_true rfl⟩) hP hK hD [] (by decide) rfl rfl hl.1 rfl (Nat.le_of_ble_eq_true rfl) dX1_join_1 (Nat.zero_le _) (Nat.zero_le _) ?_
  refine lv_aload_n hx hb dX1_join_4 rfl (lv_at hl 0 rfl) ?_
  refine lv_iload_n hx hb dX1_join_5 rfl (lv_at hl 1 rfl) ?_
  refine g_RVr (As := [.int (nI 0)]) (rest := []) ⟨hx, hb, hml, hown, hts⟩ (mt_X1_rowOf0 l dC dI cA s.heap.size x0 r0 r1 r2 r3 (nI rn)) (cwV 1 hts gX1_join_X1_rowOf rfl rfl rfl hdX1_rowOf ⟨Nat.le_of_ble_eq_true rfl, Nat.le_of_ble_eq_true rfl⟩) hP hK hD [0] (by decide) rfl (va_recv hK hP (ci := 1) (q0 := 0) rfl rfl) rfl hl.1 rfl (Nat.le_of_ble_eq_true rfl) dX1_join_6 (Nat.zero_le _) (Nat.zero_le _) ?_
  refine lv_astore_n (lv' := [(2, .ref r0), (0, .ref x0), (1, .int (nI 0))]) hx hb dX1_join_9 rfl hl (by decide) rfl (fun ls hl => ?_)
  refine lv_aload_n hx hb dX1_join_10 rfl (lv_at hl 1 rfl) ?_
  refine lv_iconst (v := 1) hx hb dX1_join_11 (by decide) ?_
  refine lv_iload_n hx hb dX1_join_12 rfl (lv_at hl 2 rfl) ?_
  refine lv_isub hx hb dX1_join_13 ?_
  rw [show (1 : Int32) - nI 0 = nI 1 from by decide]
  refine g_RVr (As := [.int (nI 1)]) (rest := []) ⟨hx, hb, hml, hown, hts⟩ (mt_X1_rowOf1 l dC dI cA s.heap.size x0 r0 r1 r2 r3 (nI rn)) (cwV 1 hts gX1_join_X1_rowOf rfl rfl rfl hdX1_rowOf ⟨Nat.le_of_ble_eq_true rfl, Nat.le_of_ble_eq_true rfl⟩) hP hK hD [0] (by decide) rfl (va_recv hK hP (ci := 1) (q0 := 0) rfl rfl) rfl hl.1 rfl (Nat.le_of_ble_eq_true rfl) dX1_join_14 (Nat.zero_le _) (Nat.zero_le _) ?_
  refine lv_astore_n (lv' := [(3, .ref r1), (2, .ref r0), (0, .ref x0), (1, .int (nI 0))]) hx hb dX1_join_17 rfl hl (by decide) rfl (fun ls hl => ?_)
  refine lv_aload_n hx hb dX1_join_18 rfl (lv_at hl 1 rfl) ?_
  refine lv_aload_n hx hb dX1_join_19 rfl (lv_at hl 0 rfl) ?_
  refine g_RVi (As := []) (rest := [.ref r0]) ⟨hx, hb, hml, hown, hts⟩ (mt_X0_size l dC dI cA s.heap.size r1 a1 (nI M.length) f9) (cwV 0 hts gX1_join_X0_size rfl rfl rfl hdX0_size ⟨Nat.le_of_ble_eq_true rfl, Nat.le_of_ble_eq_true rfl⟩) hP hK hD [3, 4] (by decide) rfl (va_recv hK hP (ci := 0) (q0 := 3) rfl rfl) rfl hl.1 rfl (Nat.le_of_ble_eq_true rfl) dX1_join_20 (Nat.zero_le _) (Nat.zero_le _) ?_
  exact g_TS (As := [.ref r0, .int (nI M.length)]) (rest := []) ⟨hx, hb, hml, hown, hts⟩ (th_X1_requireRoom l htr dC dI cA s.heap.size r0 a0 L f (nI M.length) (room_no L.length M.length (by omega) (by omega))) (va_cwS 2 hts gX1_join_X1_requireRoom rfl rfl rfl hdX1_requireRoom ⟨Nat.le_of_ble_eq_true rfl, Nat.le_of_ble_eq_true rfl⟩) hP hK hD hA hZ [1, 2] (by decide) rfl rfl hl.1 rfl (Nat.le_of_ble_eq_true rfl) dX1_join_23 (Nat.le_of_ble_eq_true rfl) (Nat.le_of_ble_eq_true rfl) hlocks hno

abbrev th_X1_swap_1b_0_rm : Room := { frames := 7, cells := 1, slots := 6, locals := 111 }
set_option maxHeartbeats 4000000 in
set_option maxRecDepth 100000 in
/-- swap_1b_0 -/
theorem th_X1_swap_1b_0 (l : Launch) (htr : l.stackTraces = false) (dC : Nat → ClassId) (dI : Nat → Nat → Nat) (cA : ClassId) (sz : Nat) (x0 : Nat) (r0 : Nat) (r1 : Nat) (r2 : Nat) (r3 : Nat) (rn : Nat) (a0 : Nat) (L : List Int32) (f : Nat → Int32) (x : Int32) (hR : RI L f) (hbad : x < 0 ∨ plI L.length ≤ x) : vx_Met l yX1_swap wsX1_swap th_X1_swap_1b_0_rm (va_Pc [.ref x0, .int (nI 0), .int x] (gBT (dC, dI) [(cA, .int)] [(x0, .inr (1, [.ref r0, .ref r1, .ref r2, .ref r3, .int (nI rn)])), (r0, .inr (0, [.ref a0, .int (nI L.length)])), (a0, .inl (cA, (100, .inl f)))] sz)) gNo (gX gIO) 1 6 (fun _ => False) := by
  refine g_ofT (cc := cX1_swap) (maxL := 6) (ret := (some .int)) (XC := fun _ => gX gIO) (by decide) rfl (Nat.le_of_ble_eq_true rfl) (fun _ => False) (fun p e s m below meth c ls hx hb hml hts hown hlocks hno hP hK hl hsz hA hD hS hZ => ?_)
  have hl : lv_has ls 6 [(0, .ref x0), (1, .int (nI 0)), (2, .int x)] := hl
  have hL := hR.1
  refine lv_iload_n hx hb dX1_swap_0 rfl (lv_at hl 1 rfl) ?_
  refine g_RSv (As := [.int (nI 0)]) (rest := []) ⟨hx, hb, hml, hown, hts⟩ (mt_X1_requireWord l dC dI cA s.heap.size 0 (by first | omega | (simp only [List.length_append, List.length_cons, List.length_nil, List.length_set, turnL_len]; omega))) (va_cwS 1 hts gX1_swap_X1_requireWord rfl rfl rfl hdX1_requireWord ⟨Nat.le_of_ble_eq_true rfl, Nat.le_of_ble_eq_true rfl⟩) hP hK hD [] (by decide) rfl rfl hl.1 rfl (Nat.le_of_ble_eq_true rfl) dX1_swap_1 (Nat.zero_le _) (Nat.zero_le _) ?_
  refine lv_aload_n hx hb dX1_swap_4 rfl (lv_at hl 0 rfl) ?_
  refine lv_iload_n hx hb dX1_swap_5 rfl (lv_at hl 1 rfl) ?_
  refine g_RVr (As := [.int (nI 0)]) (rest := []) ⟨hx, hb, hml, hown, hts⟩ (mt_X1_rowOf0 l dC dI cA s.heap.size x0 r0 r1 r2 r3 (nI rn)) (cwV 1 hts gX1_swap_X1_rowOf rfl rfl rfl hdX1_rowOf ⟨Nat.le_of_ble_eq_true rfl, Nat.le_of_ble_eq_true rfl⟩) hP hK hD [0] (by decide) rfl (va_recv hK hP (ci := 1) (q0 := 0) rfl rfl) rfl hl.1 rfl (Nat.le_of_ble_eq_true rfl) dX1_swap_6 (Nat.zero_le _) (Nat.zero_le _) ?_
  refine lv_astore_n (lv' := [(3, .ref r0), (0, .ref x0), (1, .int (nI 0)), (2, .int x)]) hx hb dX1_swap_9 rfl hl (by decide) rfl (fun ls hl => ?_)
  refine lv_iload_n hx hb dX1_swap_10 rfl (lv_at hl 3 rfl) ?_
  refine lv_aload_n hx hb dX1_swap_11 rfl (lv_at hl 0 rfl) ?_
  refine g_RVi (As := []) (rest := [.int x]) ⟨hx, hb, hml, hown, hts⟩ (mt_X0_size l dC dI cA s.heap.size r0 a0 (nI L.length) f) (cwV 0 hts gX1_swap_X0_size rfl rfl rfl hdX0_size ⟨Nat.le_of_ble_eq_true rfl, Nat.le_of_ble_eq_true rfl⟩) hP hK hD [1, 2] (by decide) rfl (va_recv hK hP (ci := 0) (q0 := 1) rfl rfl) rfl hl.1 rfl (Nat.le_of_ble_eq_true rfl) dX1_swap_12 (Nat.zero_le _) (Nat.zero_le _) ?_
  refine lv_iconst (v := 1) hx hb dX1_swap_15 (by decide) ?_
  refine lv_isub hx hb dX1_swap_16 ?_
  rw [plI_sub L.length]
  exact g_TS (As := [.int x, .int (plI L.length)]) (rest := []) ⟨hx, hb, hml, hown, hts⟩ (th_X1_requirePlace l htr dC dI cA s.heap.size x (plI L.length) (by first | omega | (simp only [List.length_append, List.length_cons, List.length_nil, List.length_set, turnL_len]; omega))) (va_cwS 2 hts gX1_swap_X1_requirePlace rfl rfl rfl hdX1_requirePlace ⟨Nat.le_of_ble_eq_true rfl, Nat.le_of_ble_eq_true rfl⟩) hP hK hD hA hZ [] (by decide) rfl rfl hl.1 rfl (Nat.le_of_ble_eq_true rfl) dX1_swap_17 (Nat.le_of_ble_eq_true rfl) (Nat.le_of_ble_eq_true rfl) hlocks hno

abbrev th_X1_swap_2_0_rm : Room := { frames := 6, cells := 1, slots := 6, locals := 90 }
set_option maxHeartbeats 4000000 in
set_option maxRecDepth 100000 in
/-- swap_2_0 -/
theorem th_X1_swap_2_0 (l : Launch) (htr : l.stackTraces = false) (dC : Nat → ClassId) (dI : Nat → Nat → Nat) (cA : ClassId) (sz : Nat) (x0 : Nat) (r0 : Nat) (r1 : Nat) (r2 : Nat) (r3 : Nat) (rn : Nat) (a0 : Nat) (L : List Int32) (f : Nat → Int32) (k : Nat) (hR : RI L f) (hk : k + 1 < L.length) (hap : abI (abI (atL L k) - abI (atL L (k + 1))) < 2) : vx_Met l yX1_swap wsX1_swap th_X1_swap_2_0_rm (va_Pc [.ref x0, .int (nI 0), .int (nI k)] (gBT (dC, dI) [(cA, .int)] [(x0, .inr (1, [.ref r0, .ref r1, .ref r2, .ref r3, .int (nI rn)])), (r0, .inr (0, [.ref a0, .int (nI L.length)])), (a0, .inl (cA, (100, .inl f)))] sz)) gNo (gX gIS) 1 6 (fun _ => False) := by
  refine g_ofT (cc := cX1_swap) (maxL := 6) (ret := (some .int)) (XC := fun _ => gX gIS) (by decide) rfl (Nat.le_of_ble_eq_true rfl) (fun _ => False) (fun p e s m below meth c ls hx hb hml hts hown hlocks hno hP hK hl hsz hA hD hS hZ => ?_)
  have hl : lv_has ls 6 [(0, .ref x0), (1, .int (nI 0)), (2, .int (nI k))] := hl
  have hL := hR.1
  refine lv_iload_n hx hb dX1_swap_0 rfl (lv_at hl 1 rfl) ?_
  refine g_RSv (As := [.int (nI 0)]) (rest := []) ⟨hx, hb, hml, hown, hts⟩ (mt_X1_requireWord l dC dI cA s.heap.size 0 (by first | omega | (simp only [List.length_append, List.length_cons, List.length_nil, List.length_set, turnL_len]; omega))) (va_cwS 1 hts gX1_swap_X1_requireWord rfl rfl rfl hdX1_requireWord ⟨Nat.le_of_ble_eq_true rfl, Nat.le_of_ble_eq_true rfl⟩) hP hK hD [] (by decide) rfl rfl hl.1 rfl (Nat.le_of_ble_eq_true rfl) dX1_swap_1 (Nat.zero_le _) (Nat.zero_le _) ?_
  refine lv_aload_n hx hb dX1_swap_4 rfl (lv_at hl 0 rfl) ?_
  refine lv_iload_n hx hb dX1_swap_5 rfl (lv_at hl 1 rfl) ?_
  refine g_RVr (As := [.int (nI 0)]) (rest := []) ⟨hx, hb, hml, hown, hts⟩ (mt_X1_rowOf0 l dC dI cA s.heap.size x0 r0 r1 r2 r3 (nI rn)) (cwV 1 hts gX1_swap_X1_rowOf rfl rfl rfl hdX1_rowOf ⟨Nat.le_of_ble_eq_true rfl, Nat.le_of_ble_eq_true rfl⟩) hP hK hD [0] (by decide) rfl (va_recv hK hP (ci := 1) (q0 := 0) rfl rfl) rfl hl.1 rfl (Nat.le_of_ble_eq_true rfl) dX1_swap_6 (Nat.zero_le _) (Nat.zero_le _) ?_
  refine lv_astore_n (lv' := [(3, .ref r0), (0, .ref x0), (1, .int (nI 0)), (2, .int (nI k))]) hx hb dX1_swap_9 rfl hl (by decide) rfl (fun ls hl => ?_)
  refine lv_iload_n hx hb dX1_swap_10 rfl (lv_at hl 3 rfl) ?_
  refine lv_aload_n hx hb dX1_swap_11 rfl (lv_at hl 0 rfl) ?_
  refine g_RVi (As := []) (rest := [.int (nI k)]) ⟨hx, hb, hml, hown, hts⟩ (mt_X0_size l dC dI cA s.heap.size r0 a0 (nI L.length) f) (cwV 0 hts gX1_swap_X0_size rfl rfl rfl hdX0_size ⟨Nat.le_of_ble_eq_true rfl, Nat.le_of_ble_eq_true rfl⟩) hP hK hD [1, 2] (by decide) rfl (va_recv hK hP (ci := 0) (q0 := 1) rfl rfl) rfl hl.1 rfl (Nat.le_of_ble_eq_true rfl) dX1_swap_12 (Nat.zero_le _) (Nat.zero_le _) ?_
  refine lv_iconst (v := 1) hx hb dX1_swap_15 (by decide) ?_
  refine lv_isub hx hb dX1_swap_16 ?_
  rw [plI_sub L.length]
  refine g_RSv (As := [.int (nI k), .int (plI L.length)]) (rest := []) ⟨hx, hb, hml, hown, hts⟩ (mt_X1_requirePlace l dC dI cA s.heap.size (nI k) (plI L.length) (nI_pos (by omega)) (lt_plI hk (by omega))) (va_cwS 2 hts gX1_swap_X1_requirePlace rfl rfl rfl hdX1_requirePlace ⟨Nat.le_of_ble_eq_true rfl, Nat.le_of_ble_eq_true rfl⟩) hP hK hD [] (by decide) rfl rfl hl.1 rfl (Nat.le_of_ble_eq_true rfl) dX1_swap_17 (Nat.zero_le _) (Nat.zero_le _) ?_
  refine lv_aload_n hx hb dX1_swap_20 rfl (lv_at hl 0 rfl) ?_
  refine lv_iload_n hx hb dX1_swap_21 rfl (lv_at hl 3 rfl) ?_
  refine g_RVi (As := [.int (nI k)]) (rest := []) ⟨hx, hb, hml, hown, hts⟩ (mt_X0_at l dC dI cA s.heap.size r0 a0 L f k hR (by first | omega | (simp only [List.length_append, List.length_cons, List.length_nil, List.length_set, turnL_len]; omega))) (cwV 1 hts gX1_swap_X0_at rfl rfl rfl hdX0_at ⟨Nat.le_of_ble_eq_true rfl, Nat.le_of_ble_eq_true rfl⟩) hP hK hD [1, 2] (by decide) rfl (va_recv hK hP (ci := 0) (q0 := 1) rfl rfl) rfl hl.1 rfl (Nat.le_of_ble_eq_true rfl) dX1_swap_22 (Nat.zero_le _) (Nat.zero_le _) ?_
  refine lv_istore (lv' := [(4, .int (atL L k)), (3, .ref r0), (0, .ref x0), (1, .int (nI 0)), (2, .int (nI k))]) hx hb dX1_swap_25 hl (by decide) rfl (fun ls hl => ?_)
  refine lv_aload_n hx hb dX1_swap_27 rfl (lv_at hl 1 rfl) ?_
  refine lv_iload_n hx hb dX1_swap_28 rfl (lv_at hl 4 rfl) ?_
  refine lv_iconst (v := 1) hx hb dX1_swap_29 (by decide) ?_
  refine lv_iadd hx hb dX1_swap_30 ?_
  rw [show (nI k) + 1 = nI (k + 1) from nI_add k 1]
  refine g_RVi (As := [.int (nI (k + 1))]) (rest := []) ⟨hx, hb, hml, hown, hts⟩ (mt_X0_at l dC dI cA s.heap.size r0 a0 L f (k + 1) hR (by first | omega | (simp only [List.length_append, List.length_cons, List.length_nil, List.length_set, turnL_len]; omega))) (cwV 1 hts gX1_swap_X0_at rfl rfl rfl hdX0_at ⟨Nat.le_of_ble_eq_true rfl, Nat.le_of_ble_eq_true rfl⟩) hP hK hD [1, 2] (by decide) rfl (va_recv hK hP (ci := 0) (q0 := 1) rfl rfl) rfl hl.1 rfl (Nat.le_of_ble_eq_true rfl) dX1_swap_31 (Nat.zero_le _) (Nat.zero_le _) ?_
  refine lv_istore (lv' := [(5, .int (atL L (k + 1))), (4, .int (atL L k)), (3, .ref r0), (0, .ref x0), (1, .int (nI 0)), (2, .int (nI k))]) hx hb dX1_swap_34 hl (by decide) rfl (fun ls hl => ?_)
  refine lv_iload hx hb dX1_swap_36 (lv_at hl 1 rfl) ?_
  refine lv_iload hx hb dX1_swap_38 (lv_at hl 0 rfl) ?_
  refine g_RSi (As := [.int (atL L k), .int (atL L (k + 1))]) (rest := []) ⟨hx, hb, hml, hown, hts⟩ (mt_X1_heightsApart l dC dI cA s.heap.size (atL L k) (atL L (k + 1))) (va_cwS 2 hts gX1_swap_X1_heightsApart rfl rfl rfl hdX1_heightsApart ⟨Nat.le_of_ble_eq_true rfl, Nat.le_of_ble_eq_true rfl⟩) hP hK hD [] (by decide) rfl rfl hl.1 rfl (Nat.le_of_ble_eq_true rfl) dX1_swap_40 (Nat.zero_le _) (Nat.zero_le _) ?_
  refine lv_iconst (v := 2) hx hb dX1_swap_43 (by decide) ?_
  refine lv_icmp_ge (tgt := 57) hx hb dX1_swap_44 (by decide) (fun c44 => ?_) (fun c44 => ?_)
  · exact absurd hap (Int32.not_lt.mpr c44)
  · exact g_throw (text := "the heights differ by less than 2") hx hb htr hown (by decide) (hts (.classLink RX1 61 "java/lang/IllegalStateException") (List.mem_of_getElem? (i := 1) rfl)) (hts (.initialized "java/lang/IllegalStateException") (List.mem_of_getElem? (i := 2) rfl)) (fun w h => hts w (gx_X1_swap_gIS w h)) g_badIS g_otIS hZ (by decide +kernel) hS (hl.1.trans hml.symm) dX1_swap_47 dX1_swap_50 dX1_swap_51 dX1_swap_53 dX1_swap_56 hno (Nat.le_of_ble_eq_true rfl) (Nat.le_of_ble_eq_true rfl) (Nat.le_of_ble_eq_true rfl) (Nat.le_of_ble_eq_true rfl) hlocks (fun t _ h1 h2 => gX_here h1 h2) (fun q hq => absurd hq List.not_mem_nil) (Nat.le_refl _) (Nat.le_refl _)

abbrev th_X1_about_1b_0_rm : Room := { frames := 7, cells := 1, slots := 6, locals := 111 }
set_option maxHeartbeats 4000000 in
set_option maxRecDepth 100000 in
/-- about_1b_0 -/
theorem th_X1_about_1b_0 (l : Launch) (htr : l.stackTraces = false) (dC : Nat → ClassId) (dI : Nat → Nat → Nat) (cA : ClassId) (sz : Nat) (x0 : Nat) (r0 : Nat) (r1 : Nat) (r2 : Nat) (r3 : Nat) (rn : Nat) (a0 : Nat) (L : List Int32) (f : Nat → Int32) (x : Int32) (hR : RI L f) (hbad : x < 0 ∨ nI L.length - 2 ≤ x) : vx_Met l yX1_about wsX1_about th_X1_about_1b_0_rm (va_Pc [.ref x0, .int (nI 0), .int x] (gBT (dC, dI) [(cA, .int)] [(x0, .inr (1, [.ref r0, .ref r1, .ref r2, .ref r3, .int (nI rn)])), (r0, .inr (0, [.ref a0, .int (nI L.length)])), (a0, .inl (cA, (100, .inl f)))] sz)) gNo (gX gIO) 1 6 (fun _ => False) := by
  refine g_ofT (cc := cX1_about) (maxL := 6) (ret := (some .int)) (XC := fun _ => gX gIO) (by decide) rfl (Nat.le_of_ble_eq_true rfl) (fun _ => False) (fun p e s m below meth c ls hx hb hml hts hown hlocks hno hP hK hl hsz hA hD hS hZ => ?_)
  have hl : lv_has ls 6 [(0, .ref x0), (1, .int (nI 0)), (2, .int x)] := hl
  have hL := hR.1
  refine lv_iload_n hx hb dX1_about_0 rfl (lv_at hl 1 rfl) ?_
  refine g_RSv (As := [.int (nI 0)]) (rest := []) ⟨hx, hb, hml, hown, hts⟩ (mt_X1_requireWord l dC dI cA s.heap.size 0 (by first | omega | (simp only [List.length_append, List.length_cons, List.length_nil, List.length_set, turnL_len]; omega))) (va_cwS 1 hts gX1_about_X1_requireWord rfl rfl rfl hdX1_requireWord ⟨Nat.le_of_ble_eq_true rfl, Nat.le_of_ble_eq_true rfl⟩) hP hK hD [] (by decide) rfl rfl hl.1 rfl (Nat.le_of_ble_eq_true rfl) dX1_about_1 (Nat.zero_le _) (Nat.zero_le _) ?_
  refine lv_aload_n hx hb dX1_about_4 rfl (lv_at hl 0 rfl) ?_
  refine lv_iload_n hx hb dX1_about_5 rfl (lv_at hl 1 rfl) ?_
  refine g_RVr (As := [.int (nI 0)]) (rest := []) ⟨hx, hb, hml, hown, hts⟩ (mt_X1_rowOf0 l dC dI cA s.heap.size x0 r0 r1 r2 r3 (nI rn)) (cwV 1 hts gX1_about_X1_rowOf rfl rfl rfl hdX1_rowOf ⟨Nat.le_of_ble_eq_true rfl, Nat.le_of_ble_eq_true rfl⟩) hP hK hD [0] (by decide) rfl (va_recv hK hP (ci := 1) (q0 := 0) rfl rfl) rfl hl.1 rfl (Nat.le_of_ble_eq_true rfl) dX1_about_6 (Nat.zero_le _) (Nat.zero_le _) ?_
  refine lv_astore_n (lv' := [(3, .ref r0), (0, .ref x0), (1, .int (nI 0)), (2, .int x)]) hx hb dX1_about_9 rfl hl (by decide) rfl (fun ls hl => ?_)
  refine lv_iload_n hx hb dX1_about_10 rfl (lv_at hl 3 rfl) ?_
  refine lv_aload_n hx hb dX1_about_11 rfl (lv_at hl 0 rfl) ?_
  refine g_RVi (As := []) (rest := [.int x]) ⟨hx, hb, hml, hown, hts⟩ (mt_X0_size l dC dI cA s.heap.size r0 a0 (nI L.length) f) (cwV 0 hts gX1_about_X0_size rfl rfl rfl hdX0_size ⟨Nat.le_of_ble_eq_true rfl, Nat.le_of_ble_eq_true rfl⟩) hP hK hD [1, 2] (by decide) rfl (va_recv hK hP (ci := 0) (q0 := 1) rfl rfl) rfl hl.1 rfl (Nat.le_of_ble_eq_true rfl) dX1_about_12 (Nat.zero_le _) (Nat.zero_le _) ?_
  refine lv_iconst (v := 2) hx hb dX1_about_15 (by decide) ?_
  refine lv_isub hx hb dX1_about_16 ?_
  exact g_TS (As := [.int x, .int ((nI L.length) - 2)]) (rest := []) ⟨hx, hb, hml, hown, hts⟩ (th_X1_requirePlace l htr dC dI cA s.heap.size x ((nI L.length) - 2) (by first | omega | (simp only [List.length_append, List.length_cons, List.length_nil, List.length_set, turnL_len]; omega))) (va_cwS 2 hts gX1_about_X1_requirePlace rfl rfl rfl hdX1_requirePlace ⟨Nat.le_of_ble_eq_true rfl, Nat.le_of_ble_eq_true rfl⟩) hP hK hD hA hZ [] (by decide) rfl rfl hl.1 rfl (Nat.le_of_ble_eq_true rfl) dX1_about_17 (Nat.le_of_ble_eq_true rfl) (Nat.le_of_ble_eq_true rfl) hlocks hno

abbrev th_X1_about_2_0_rm : Room := { frames := 6, cells := 1, slots := 6, locals := 90 }
set_option maxHeartbeats 4000000 in
set_option maxRecDepth 100000 in
/-- about_2_0 -/
theorem th_X1_about_2_0 (l : Launch) (htr : l.stackTraces = false) (dC : Nat → ClassId) (dI : Nat → Nat → Nat) (cA : ClassId) (sz : Nat) (x0 : Nat) (r0 : Nat) (r1 : Nat) (r2 : Nat) (r3 : Nat) (rn : Nat) (a0 : Nat) (L : List Int32) (f : Nat → Int32) (k : Nat) (hR : RI L f) (hk : k + 2 < L.length) (hno9 : ¬ (atL L (k + 2) = atL L k ∧ sgI (atL L (k + 1)) = sgI (atL L k) ∧ abI (abI (atL L (k + 1)) - abI (atL L k)) = 1)) : vx_Met l yX1_about wsX1_about th_X1_about_2_0_rm (va_Pc [.ref x0, .int (nI 0), .int (nI k)] (gBT (dC, dI) [(cA, .int)] [(x0, .inr (1, [.ref r0, .ref r1, .ref r2, .ref r3, .int (nI rn)])), (r0, .inr (0, [.ref a0, .int (nI L.length)])), (a0, .inl (cA, (100, .inl f)))] sz)) gNo (gX gIS) 1 6 (fun _ => False) := by
  refine g_ofT (cc := cX1_about) (maxL := 6) (ret := (some .int)) (XC := fun _ => gX gIS) (by decide) rfl (Nat.le_of_ble_eq_true rfl) (fun _ => False) (fun p e s m below meth c ls hx hb hml hts hown hlocks hno hP hK hl hsz hA hD hS hZ => ?_)
  have hl : lv_has ls 6 [(0, .ref x0), (1, .int (nI 0)), (2, .int (nI k))] := hl
  have hL := hR.1
  refine lv_iload_n hx hb dX1_about_0 rfl (lv_at hl 1 rfl) ?_
  refine g_RSv (As := [.int (nI 0)]) (rest := []) ⟨hx, hb, hml, hown, hts⟩ (mt_X1_requireWord l dC dI cA s.heap.size 0 (by first | omega | (simp only [List.length_append, List.length_cons, List.length_nil, List.length_set, turnL_len]; omega))) (va_cwS 1 hts gX1_about_X1_requireWord rfl rfl rfl hdX1_requireWord ⟨Nat.le_of_ble_eq_true rfl, Nat.le_of_ble_eq_true rfl⟩) hP hK hD [] (by decide) rfl rfl hl.1 rfl (Nat.le_of_ble_eq_true rfl) dX1_about_1 (Nat.zero_le _) (Nat.zero_le _) ?_
  refine lv_aload_n hx hb dX1_about_4 rfl (lv_at hl 0 rfl) ?_
  refine lv_iload_n hx hb dX1_about_5 rfl (lv_at hl 1 rfl) ?_
  refine g_RVr (As := [.int (nI 0)]) (rest := []) ⟨hx, hb, hml, hown, hts⟩ (mt_X1_rowOf0 l dC dI cA s.heap.size x0 r0 r1 r2 r3 (nI rn)) (cwV 1 hts gX1_about_X1_rowOf rfl rfl rfl hdX1_rowOf ⟨Nat.le_of_ble_eq_true rfl, Nat.le_of_ble_eq_true rfl⟩) hP hK hD [0] (by decide) rfl (va_recv hK hP (ci := 1) (q0 := 0) rfl rfl) rfl hl.1 rfl (Nat.le_of_ble_eq_true rfl) dX1_about_6 (Nat.zero_le _) (Nat.zero_le _) ?_
  refine lv_astore_n (lv' := [(3, .ref r0), (0, .ref x0), (1, .int (nI 0)), (2, .int (nI k))]) hx hb dX1_about_9 rfl hl (by decide) rfl (fun ls hl => ?_)
  refine lv_iload_n hx hb dX1_about_10 rfl (lv_at hl 3 rfl) ?_
  refine lv_aload_n hx hb dX1_about_11 rfl (lv_at hl 0 rfl) ?_
  refine g_RVi (As := []) (rest := [.int (nI k)]) ⟨hx, hb, hml, hown, hts⟩ (mt_X0_size l dC dI cA s.heap.size r0 a0 (nI L.length) f) (cwV 0 hts gX1_about_X0_size rfl rfl rfl hdX0_size ⟨Nat.le_of_ble_eq_true rfl, Nat.le_of_ble_eq_true rfl⟩) hP hK hD [1, 2] (by decide) rfl (va_recv hK hP (ci := 0) (q0 := 1) rfl rfl) rfl hl.1 rfl (Nat.le_of_ble_eq_true rfl) dX1_about_12 (Nat.zero_le _) (Nat.zero_le _) ?_
  refine lv_iconst (v := 2) hx hb dX1_about_15 (by decide) ?_
  refine lv_isub hx hb dX1_about_16 ?_
  rw [sub2_nI (show 2 ≤ L.length by omega)]
  refine g_RSv (As := [.int (nI k), .int (nI (L.length - 2))]) (rest := []) ⟨hx, hb, hml, hown, hts⟩ (mt_X1_requirePlace l dC dI cA s.heap.size (nI k) (nI (L.length - 2)) (nI_pos (by omega)) (nI_lt (by omega) (by omega))) (va_cwS 2 hts gX1_about_X1_requirePlace rfl rfl rfl hdX1_requirePlace ⟨Nat.le_of_ble_eq_true rfl, Nat.le_of_ble_eq_true rfl⟩) hP hK hD [] (by decide) rfl rfl hl.1 rfl (Nat.le_of_ble_eq_true rfl) dX1_about_17 (Nat.zero_le _) (Nat.zero_le _) ?_
  refine lv_aload_n hx hb dX1_about_20 rfl (lv_at hl 0 rfl) ?_
  refine lv_iload_n hx hb dX1_about_21 rfl (lv_at hl 3 rfl) ?_
  refine g_RVi (As := [.int (nI k)]) (rest := []) ⟨hx, hb, hml, hown, hts⟩ (mt_X0_at l dC dI cA s.heap.size r0 a0 L f k hR (by first | omega | (simp only [List.length_append, List.length_cons, List.length_nil, List.length_set, turnL_len]; omega))) (cwV 1 hts gX1_about_X0_at rfl rfl rfl hdX0_at ⟨Nat.le_of_ble_eq_true rfl, Nat.le_of_ble_eq_true rfl⟩) hP hK hD [1, 2] (by decide) rfl (va_recv hK hP (ci := 0) (q0 := 1) rfl rfl) rfl hl.1 rfl (Nat.le_of_ble_eq_true rfl) dX1_about_22 (Nat.zero_le _) (Nat.zero_le _) ?_
  refine lv_istore (lv' := [(4, .int (atL L k)), (3, .ref r0), (0, .ref x0), (1, .int (nI 0)), (2, .int (nI k))]) hx hb dX1_about_25 hl (by decide) rfl (fun ls hl => ?_)
  refine lv_aload_n hx hb dX1_about_27 rfl (lv_at hl 1 rfl) ?_
  refine lv_iload_n hx hb dX1_about_28 rfl (lv_at hl 4 rfl) ?_
  refine lv_iconst (v := 1) hx hb dX1_about_29 (by decide) ?_
  refine lv_iadd hx hb dX1_about_30 ?_
  rw [show (nI k) + 1 = nI (k + 1) from nI_add k 1]
  refine g_RVi (As := [.int (nI (k + 1))]) (rest := []) ⟨hx, hb, hml, hown, hts⟩ (mt_X0_at l dC dI cA s.heap.size r0 a0 L f (k + 1) hR (by first | omega | (simp only [List.length_append, List.length_cons, List.length_nil, List.length_set, turnL_len]; omega))) (cwV 1 hts gX1_about_X0_at rfl rfl rfl hdX0_at ⟨Nat.le_of_ble_eq_true rfl, Nat.le_of_ble_eq_true rfl⟩) hP hK hD [1, 2] (by decide) rfl (va_recv hK hP (ci := 0) (q0 := 1) rfl rfl) rfl hl.1 rfl (Nat.le_of_ble_eq_true rfl) dX1_about_31 (Nat.zero_le _) (Nat.zero_le _) ?_
  refine lv_istore (lv' := [(5, .int (atL L (k + 1))), (4, .int (atL L k)), (3, .ref r0), (0, .ref x0), (1, .int (nI 0)), (2, .int (nI k))]) hx hb dX1_about_34 hl (by decide) rfl (fun ls hl => ?_)
  refine lv_aload_n hx hb dX1_about_36 rfl (lv_at hl 2 rfl) ?_
  refine lv_iload_n hx hb dX1_about_37 rfl (lv_at hl 5 rfl) ?_
  refine lv_iconst (v := 2) hx hb dX1_about_38 (by decide) ?_
  refine lv_iadd hx hb dX1_about_39 ?_
  rw [show (nI k) + 2 = nI (k + 2) from nI_add k 2]
  refine g_RVi (As := [.int (nI (k + 2))]) (rest := []) ⟨hx, hb, hml, hown, hts⟩ (mt_X0_at l dC dI cA s.heap.size r0 a0 L f (k + 2) hR (by first | omega | (simp only [List.length_append, List.length_cons, List.length_nil, List.length_set, turnL_len]; omega))) (cwV 1 hts gX1_about_X0_at rfl rfl rfl hdX0_at ⟨Nat.le_of_ble_eq_true rfl, Nat.le_of_ble_eq_true rfl⟩) hP hK hD [1, 2] (by decide) rfl (va_recv hK hP (ci := 0) (q0 := 1) rfl rfl) rfl hl.1 rfl (Nat.le_of_ble_eq_true rfl) dX1_about_40 (Nat.zero_le _) (Nat.zero_le _) ?_
  refine lv_iload hx hb dX1_about_43 (lv_at hl 1 rfl) ?_
  refine lv_icmp_ne (tgt := 72) hx hb dX1_about_45 (by decide) (fun c45 => ?_) (fun c45 => ?_)
  · exact g_throw (text := "the three letters can't be turned about") hx hb htr hown (by decide) (hts (.classLink RX1 61 "java/lang/IllegalStateException") (List.mem_of_getElem? (i := 1) rfl)) (hts (.initialized "java/lang/IllegalStateException") (List.mem_of_getElem? (i := 2) rfl)) (fun w h => hts w (gx_X1_about_gIS w h)) g_badIS g_otIS hZ (by decide +kernel) hS (hl.1.trans hml.symm) dX1_about_72 dX1_about_75 dX1_about_76 dX1_about_78 dX1_about_81 hno (Nat.le_of_ble_eq_true rfl) (Nat.le_of_ble_eq_true rfl) (Nat.le_of_ble_eq_true rfl) (Nat.le_of_ble_eq_true rfl) hlocks (fun t _ h1 h2 => gX_here h1 h2) (fun q hq => absurd hq List.not_mem_nil) (Nat.le_refl _) (Nat.le_refl _)
  · refine lv_iload hx hb dX1_about_48 (lv_at hl 0 rfl) ?_
    refine g_RSi (As := [.int (atL L (k + 1))]) (rest := []) ⟨hx, hb, hml, hown, hts⟩ (mt_X1_signOf l dC dI cA s.heap.size (atL L (k + 1))) (va_cwS 1 hts gX1_about_X1_signOf rfl rfl rfl hdX1_signOf ⟨Nat.le_of_ble_eq_true rfl, Nat.le_of_ble_eq_true rfl⟩) hP hK hD [] (by decide) rfl rfl hl.1 rfl (Nat.le_of_ble_eq_true rfl) dX1_about_50 (Nat.zero_le _) (Nat.zero_le _) ?_
    refine lv_iload hx hb dX1_about_53 (lv_at hl 1 rfl) ?_
    refine g_RSi (As := [.int (atL L k)]) (rest := [.int (sgI (atL L (k + 1)))]) ⟨hx, hb, hml, hown, hts⟩ (mt_X1_signOf l dC dI cA s.heap.size (atL L k)) (va_cwS 1 hts gX1_about_X1_signOf rfl rfl rfl hdX1_signOf ⟨Nat.le_of_ble_eq_true rfl, Nat.le_of_ble_eq_true rfl⟩) hP hK hD [] (by decide) rfl rfl hl.1 rfl (Nat.le_of_ble_eq_true rfl) dX1_about_55 (Nat.zero_le _) (Nat.zero_le _) ?_
    refine lv_icmp_ne (tgt := 72) hx hb dX1_about_58 (by decide) (fun c58 => ?_) (fun c58 => ?_)
    · exact g_throw (text := "the three letters can't be turned about") hx hb htr hown (by decide) (hts (.classLink RX1 61 "java/lang/IllegalStateException") (List.mem_of_getElem? (i := 1) rfl)) (hts (.initialized "java/lang/IllegalStateException") (List.mem_of_getElem? (i := 2) rfl)) (fun w h => hts w (gx_X1_about_gIS w h)) g_badIS g_otIS hZ (by decide +kernel) hS (hl.1.trans hml.symm) dX1_about_72 dX1_about_75 dX1_about_76 dX1_about_78 dX1_about_81 hno (Nat.le_of_ble_eq_true rfl) (Nat.le_of_ble_eq_true rfl) (Nat.le_of_ble_eq_true rfl) (Nat.le_of_ble_eq_true rfl) hlocks (fun t _ h1 h2 => gX_here h1 h2) (fun q hq => absurd hq List.not_mem_nil) (Nat.le_refl _) (Nat.le_refl _)
    · refine lv_iload hx hb dX1_about_61 (lv_at hl 0 rfl) ?_
      refine lv_iload hx hb dX1_about_63 (lv_at hl 1 rfl) ?_
      refine g_RSi (As := [.int (atL L (k + 1)), .int (atL L k)]) (rest := []) ⟨hx, hb, hml, hown, hts⟩ (mt_X1_heightsApart l dC dI cA s.heap.size (atL L (k + 1)) (atL L k)) (va_cwS 2 hts gX1_about_X1_heightsApart rfl rfl rfl hdX1_heightsApart ⟨Nat.le_of_ble_eq_true rfl, Nat.le_of_ble_eq_true rfl⟩) hP hK hD [] (by decide) rfl rfl hl.1 rfl (Nat.le_of_ble_eq_true rfl) dX1_about_65 (Nat.zero_le _) (Nat.zero_le _) ?_
      refine lv_iconst (v := 1) hx hb dX1_about_68 (by decide) ?_
      refine lv_icmp_eq (tgt := 82) hx hb dX1_about_69 (by decide) (fun c69 => ?_) (fun c69 => ?_)
      · exact absurd ⟨c45, c58, c69⟩ hno9
      · exact g_throw (text := "the three letters can't be turned about") hx hb htr hown (by decide) (hts (.classLink RX1 61 "java/lang/IllegalStateException") (List.mem_of_getElem? (i := 1) rfl)) (hts (.initialized "java/lang/IllegalStateException") (List.mem_of_getElem? (i := 2) rfl)) (fun w h => hts w (gx_X1_about_gIS w h)) g_badIS g_otIS hZ (by decide +kernel) hS (hl.1.trans hml.symm) dX1_about_72 dX1_about_75 dX1_about_76 dX1_about_78 dX1_about_81 hno (Nat.le_of_ble_eq_true rfl) (Nat.le_of_ble_eq_true rfl) (Nat.le_of_ble_eq_true rfl) (Nat.le_of_ble_eq_true rfl) hlocks (fun t _ h1 h2 => gX_here h1 h2) (fun q hq => absurd hq List.not_mem_nil) (Nat.le_refl _) (Nat.le_refl _)

abbrev th_X1_insert_1b_0_rm : Room := { frames := 7, cells := 1, slots := 6, locals := 111 }
set_option maxHeartbeats 4000000 in
set_option maxRecDepth 100000 in
/-- insert_1b_0 -/
theorem th_X1_insert_1b_0 (l : Launch) (htr : l.stackTraces = false) (dC : Nat → ClassId) (dI : Nat → Nat → Nat) (cA : ClassId) (sz : Nat) (x0 : Nat) (r0 : Nat) (r1 : Nat) (r2 : Nat) (r3 : Nat) (rn : Nat) (a0 : Nat) (L : List Int32) (f : Nat → Int32) (x : Int32) (y : Int32) (hR : RI L f) (hbad : x < 0 ∨ nI (L.length + 1) ≤ x) : vx_Met l yX1_insert wsX1_insert th_X1_insert_1b_0_rm (va_Pc [.ref x0, .int (nI 0), .int x, .int y] (gBT (dC, dI) [(cA, .int)] [(x0, .inr (1, [.ref r0, .ref r1, .ref r2, .ref r3, .int (nI rn)])), (r0, .inr (0, [.ref a0, .int (nI L.length)])), (a0, .inl (cA, (100, .inl f)))] sz)) gNo (gX gIO) 1 6 (fun _ => False) := by
  refine g_ofT (cc := cX1_insert) (maxL := 5) (ret := (some .int)) (XC := fun _ => gX gIO) (by decide) rfl (Nat.le_of_ble_eq_true rfl) (fun _ => False) (fun p e s m below meth c ls hx hb hml hts hown hlocks hno hP hK hl hsz hA hD hS hZ => ?_)
  have hl : lv_has ls 5 [(0, .ref x0), (1, .int (nI 0)), (2, .int x), (3, .int y)] := hl
  have hL := hR.1
  refine lv_iload_n hx hb dX1_insert_0 rfl (lv_at hl 1 rfl) ?_
  refine g_RSv (As := [.int (nI 0)]) (rest := []) ⟨hx, hb, hml, hown, hts⟩ (mt_X1_requireWord l dC dI cA s.heap.size 0 (by first | omega | (simp only [List.length_append, List.length_cons, List.length_nil, List.length_set, turnL_len]; omega))) (va_cwS 1 hts gX1_insert_X1_requireWord rfl rfl rfl hdX1_requireWord ⟨Nat.le_of_ble_eq_true rfl, Nat.le_of_ble_eq_true rfl⟩) hP hK hD [] (by decide) rfl rfl hl.1 rfl (Nat.le_of_ble_eq_true rfl) dX1_insert_1 (Nat.zero_le _) (Nat.zero_le _) ?_
  refine lv_aload_n hx hb dX1_insert_4 rfl (lv_at hl 0 rfl) ?_
  refine lv_iload_n hx hb dX1_insert_5 rfl (lv_at hl 1 rfl) ?_
  refine g_RVr (As := [.int (nI 0)]) (rest := []) ⟨hx, hb, hml, hown, hts⟩ (mt_X1_rowOf0 l dC dI cA s.heap.size x0 r0 r1 r2 r3 (nI rn)) (cwV 1 hts gX1_insert_X1_rowOf rfl rfl rfl hdX1_rowOf ⟨Nat.le_of_ble_eq_true rfl, Nat.le_of_ble_eq_true rfl⟩) hP hK hD [0] (by decide) rfl (va_recv hK hP (ci := 1) (q0 := 0) rfl rfl) rfl hl.1 rfl (Nat.le_of_ble_eq_true rfl) dX1_insert_6 (Nat.zero_le _) (Nat.zero_le _) ?_
  refine lv_astore (lv' := [(4, .ref r0), (0, .ref x0), (1, .int (nI 0)), (2, .int x), (3, .int y)]) hx hb dX1_insert_9 hl (by decide) rfl (fun ls hl => ?_)
  refine lv_iload_n hx hb dX1_insert_11 rfl (lv_at hl 3 rfl) ?_
  refine lv_aload hx hb dX1_insert_12 (lv_at hl 0 rfl) ?_
  refine g_RVi (As := []) (rest := [.int x]) ⟨hx, hb, hml, hown, hts⟩ (mt_X0_size l dC dI cA s.heap.size r0 a0 (nI L.length) f) (cwV 0 hts gX1_insert_X0_size rfl rfl rfl hdX0_size ⟨Nat.le_of_ble_eq_true rfl, Nat.le_of_ble_eq_true rfl⟩) hP hK hD [1, 2] (by decide) rfl (va_recv hK hP (ci := 0) (q0 := 1) rfl rfl) rfl hl.1 rfl (Nat.le_of_ble_eq_true rfl) dX1_insert_14 (Nat.zero_le _) (Nat.zero_le _) ?_
  refine lv_iconst (v := 1) hx hb dX1_insert_17 (by decide) ?_
  refine lv_iadd hx hb dX1_insert_18 ?_
  rw [show (nI L.length) + 1 = nI (L.length + 1) from nI_add L.length 1]
  exact g_TS (As := [.int x, .int (nI (L.length + 1))]) (rest := []) ⟨hx, hb, hml, hown, hts⟩ (th_X1_requirePlace l htr dC dI cA s.heap.size x (nI (L.length + 1)) (by first | omega | (simp only [List.length_append, List.length_cons, List.length_nil, List.length_set, turnL_len]; omega))) (va_cwS 2 hts gX1_insert_X1_requirePlace rfl rfl rfl hdX1_requirePlace ⟨Nat.le_of_ble_eq_true rfl, Nat.le_of_ble_eq_true rfl⟩) hP hK hD hA hZ [] (by decide) rfl rfl hl.1 rfl (Nat.le_of_ble_eq_true rfl) dX1_insert_19 (Nat.le_of_ble_eq_true rfl) (Nat.le_of_ble_eq_true rfl) hlocks hno

abbrev th_X1_insert_2_0_rm : Room := { frames := 7, cells := 1, slots := 6, locals := 111 }
set_option maxHeartbeats 4000000 in
set_option maxRecDepth 100000 in
/-- insert_2_0 -/
theorem th_X1_insert_2_0 (l : Launch) (htr : l.stackTraces = false) (dC : Nat → ClassId) (dI : Nat → Nat → Nat) (cA : ClassId) (sz : Nat) (x0 : Nat) (r0 : Nat) (r1 : Nat) (r2 : Nat) (r3 : Nat) (rn : Nat) (a0 : Nat) (L : List Int32) (f : Nat → Int32) (k : Nat) (x : Int32) (hR : RI L f) (hk : k ≤ L.length) (hbad : x = 0 ∨ x ≤ -nI rn ∨ nI rn ≤ x) : vx_Met l yX1_insert wsX1_insert th_X1_insert_2_0_rm (va_Pc [.ref x0, .int (nI 0), .int (nI k), .int x] (gBT (dC, dI) [(cA, .int)] [(x0, .inr (1, [.ref r0, .ref r1, .ref r2, .ref r3, .int (nI rn)])), (r0, .inr (0, [.ref a0, .int (nI L.length)])), (a0, .inl (cA, (100, .inl f)))] sz)) gNo (gX gIA) 1 6 (fun _ => False) := by
  refine g_ofT (cc := cX1_insert) (maxL := 5) (ret := (some .int)) (XC := fun _ => gX gIA) (by decide) rfl (Nat.le_of_ble_eq_true rfl) (fun _ => False) (fun p e s m below meth c ls hx hb hml hts hown hlocks hno hP hK hl hsz hA hD hS hZ => ?_)
  have hl : lv_has ls 5 [(0, .ref x0), (1, .int (nI 0)), (2, .int (nI k)), (3, .int x)] := hl
  have hL := hR.1
  refine lv_iload_n hx hb dX1_insert_0 rfl (lv_at hl 1 rfl) ?_
  refine g_RSv (As := [.int (nI 0)]) (rest := []) ⟨hx, hb, hml, hown, hts⟩ (mt_X1_requireWord l dC dI cA s.heap.size 0 (by first | omega | (simp only [List.length_append, List.length_cons, List.length_nil, List.length_set, turnL_len]; omega))) (va_cwS 1 hts gX1_insert_X1_requireWord rfl rfl rfl hdX1_requireWord ⟨Nat.le_of_ble_eq_true rfl, Nat.le_of_ble_eq_true rfl⟩) hP hK hD [] (by decide) rfl rfl hl.1 rfl (Nat.le_of_ble_eq_true rfl) dX1_insert_1 (Nat.zero_le _) (Nat.zero_le _) ?_
  refine lv_aload_n hx hb dX1_insert_4 rfl (lv_at hl 0 rfl) ?_
  refine lv_iload_n hx hb dX1_insert_5 rfl (lv_at hl 1 rfl) ?_
  refine g_RVr (As := [.int (nI 0)]) (rest := []) ⟨hx, hb, hml, hown, hts⟩ (mt_X1_rowOf0 l dC dI cA s.heap.size x0 r0 r1 r2 r3 (nI rn)) (cwV 1 hts gX1_insert_X1_rowOf rfl rfl rfl hdX1_rowOf ⟨Nat.le_of_ble_eq_true rfl, Nat.le_of_ble_eq_true rfl⟩) hP hK hD [0] (by decide) rfl (va_recv hK hP (ci := 1) (q0 := 0) rfl rfl) rfl hl.1 rfl (Nat.le_of_ble_eq_true rfl) dX1_insert_6 (Nat.zero_le _) (Nat.zero_le _) ?_
  refine lv_astore (lv' := [(4, .ref r0), (0, .ref x0), (1, .int (nI 0)), (2, .int (nI k)), (3, .int x)]) hx hb dX1_insert_9 hl (by decide) rfl (fun ls hl => ?_)
  refine lv_iload_n hx hb dX1_insert_11 rfl (lv_at hl 3 rfl) ?_
  refine lv_aload hx hb dX1_insert_12 (lv_at hl 0 rfl) ?_
  refine g_RVi (As := []) (rest := [.int (nI k)]) ⟨hx, hb, hml, hown, hts⟩ (mt_X0_size l dC dI cA s.heap.size r0 a0 (nI L.length) f) (cwV 0 hts gX1_insert_X0_size rfl rfl rfl hdX0_size ⟨Nat.le_of_ble_eq_true rfl, Nat.le_of_ble_eq_true rfl⟩) hP hK hD [1, 2] (by decide) rfl (va_recv hK hP (ci := 0) (q0 := 1) rfl rfl) rfl hl.1 rfl (Nat.le_of_ble_eq_true rfl) dX1_insert_14 (Nat.zero_le _) (Nat.zero_le _) ?_
  refine lv_iconst (v := 1) hx hb dX1_insert_17 (by decide) ?_
  refine lv_iadd hx hb dX1_insert_18 ?_
  rw [show (nI L.length) + 1 = nI (L.length + 1) from nI_add L.length 1]
  refine g_RSv (As := [.int (nI k), .int (nI (L.length + 1))]) (rest := []) ⟨hx, hb, hml, hown, hts⟩ (mt_X1_requirePlace l dC dI cA s.heap.size (nI k) (nI (L.length + 1)) (nI_pos (by omega)) (nI_lt (by omega) (by omega))) (va_cwS 2 hts gX1_insert_X1_requirePlace rfl rfl rfl hdX1_requirePlace ⟨Nat.le_of_ble_eq_true rfl, Nat.le_of_ble_eq_true rfl⟩) hP hK hD [] (by decide) rfl rfl hl.1 rfl (Nat.le_of_ble_eq_true rfl) dX1_insert_19 (Nat.zero_le _) (Nat.zero_le _) ?_
  refine lv_aload_n hx hb dX1_insert_22 rfl (lv_at hl 1 rfl) ?_
  refine lv_iload_n hx hb dX1_insert_23 rfl (lv_at hl 4 rfl) ?_
  exact g_TV (As := [.int x]) (rest := []) ⟨hx, hb, hml, hown, hts⟩ (th_X1_requireLetter l htr dC dI cA s.heap.size x0 r0 r1 r2 r3 (nI rn) x (by first | omega | (simp only [List.length_append, List.length_cons, List.length_nil, List.length_set, turnL_len]; omega))) (cwV 1 hts gX1_insert_X1_requireLetter rfl rfl rfl hdX1_requireLetter ⟨Nat.le_of_ble_eq_true rfl, Nat.le_of_ble_eq_true rfl⟩) hP hK hD hA hZ [0] (by decide) rfl (va_recv hK hP (ci := 1) (q0 := 0) rfl rfl) rfl hl.1 rfl (Nat.le_of_ble_eq_true rfl) dX1_insert_24 (Nat.le_of_ble_eq_true rfl) (Nat.le_of_ble_eq_true rfl) hlocks hno

abbrev th_X1_insert_3_0_rm : Room := { frames := 7, cells := 1, slots := 6, locals := 111 }
set_option maxHeartbeats 4000000 in
set_option maxRecDepth 100000 in
/-- insert_3_0 -/
theorem th_X1_insert_3_0 (l : Launch) (htr : l.stackTraces = false) (dC : Nat → ClassId) (dI : Nat → Nat → Nat) (cA : ClassId) (sz : Nat) (x0 : Nat) (r0 : Nat) (r1 : Nat) (r2 : Nat) (r3 : Nat) (rn : Nat) (a0 : Nat) (L : List Int32) (f : Nat → Int32) (k : Nat) (x : Int32) (hR : RI L f) (hk : k ≤ L.length) (h0 : ¬ x = 0) (h1 : ¬ x ≤ -nI rn) (h2 : x < nI rn) (hk2 : 30 < L.length + 2) : vx_Met l yX1_insert wsX1_insert th_X1_insert_3_0_rm (va_Pc [.ref x0, .int (nI 0), .int (nI k), .int x] (gBT (dC, dI) [(cA, .int)] [(x0, .inr (1, [.ref r0, .ref r1, .ref r2, .ref r3, .int (nI rn)])), (r0, .inr (0, [.ref a0, .int (nI L.length)])), (a0, .inl (cA, (100, .inl f)))] sz)) gNo (gX gIS) 1 6 (fun _ => False) := by
  refine g_ofT (cc := cX1_insert) (maxL := 5) (ret := (some .int)) (XC := fun _ => gX gIS) (by decide) rfl (Nat.le_of_ble_eq_true rfl) (fun _ => False) (fun p e s m below meth c ls hx hb hml hts hown hlocks hno hP hK hl hsz hA hD hS hZ => ?_)
  have hl : lv_has ls 5 [(0, .ref x0), (1, .int (nI 0)), (2, .int (nI k)), (3, .int x)] := hl
  have hL := hR.1
  refine lv_iload_n hx hb dX1_insert_0 rfl (lv_at hl 1 rfl) ?_
  refine g_RSv (As := [.int (nI 0)]) (rest := []) ⟨hx, hb, hml, hown, hts⟩ (mt_X1_requireWord l dC dI cA s.heap.size 0 (by first | omega | (simp only [List.length_append, List.length_cons, List.length_nil, List.length_set, turnL_len]; omega))) (va_cwS 1 hts gX1_insert_X1_requireWord rfl rfl rfl hdX1_requireWord ⟨Nat.le_of_ble_eq_true rfl, Nat.le_of_ble_eq_true rfl⟩) hP hK hD [] (by decide) rfl rfl hl.1 rfl (Nat.le_of_ble_eq_true rfl) dX1_insert_1 (Nat.zero_le _) (Nat.zero_le _) ?_
  refine lv_aload_n hx hb dX1_insert_4 rfl (lv_at hl 0 rfl) ?_
  refine lv_iload_n hx hb dX1_insert_5 rfl (lv_at hl 1 rfl) ?_
  refine g_RVr (As := [.int (nI 0)]) (rest := []) ⟨hx, hb, hml, hown, hts⟩ (mt_X1_rowOf0 l dC dI cA s.heap.size x0 r0 r1 r2 r3 (nI rn)) (cwV 1 hts gX1_insert_X1_rowOf rfl rfl rfl hdX1_rowOf ⟨Nat.le_of_ble_eq_true rfl, Nat.le_of_ble_eq_true rfl⟩) hP hK hD [0] (by decide) rfl (va_recv hK hP (ci := 1) (q0 := 0) rfl rfl) rfl hl.1 rfl (Nat.le_of_ble_eq_true rfl) dX1_insert_6 (Nat.zero_le _) (Nat.zero_le _) ?_
  refine lv_astore (lv' := [(4, .ref r0), (0, .ref x0), (1, .int (nI 0)), (2, .int (nI k)), (3, .int x)]) hx hb dX1_insert_9 hl (by decide) rfl (fun ls hl => ?_)
  refine lv_iload_n hx hb dX1_insert_11 rfl (lv_at hl 3 rfl) ?_
  refine lv_aload hx hb dX1_insert_12 (lv_at hl 0 rfl) ?_
  refine g_RVi (As := []) (rest := [.int (nI k)]) ⟨hx, hb, hml, hown, hts⟩ (mt_X0_size l dC dI cA s.heap.size r0 a0 (nI L.length) f) (cwV 0 hts gX1_insert_X0_size rfl rfl rfl hdX0_size ⟨Nat.le_of_ble_eq_true rfl, Nat.le_of_ble_eq_true rfl⟩) hP hK hD [1, 2] (by decide) rfl (va_recv hK hP (ci := 0) (q0 := 1) rfl rfl) rfl hl.1 rfl (Nat.le_of_ble_eq_true rfl) dX1_insert_14 (Nat.zero_le _) (Nat.zero_le _) ?_
  refine lv_iconst (v := 1) hx hb dX1_insert_17 (by decide) ?_
  refine lv_iadd hx hb dX1_insert_18 ?_
  rw [show (nI L.length) + 1 = nI (L.length + 1) from nI_add L.length 1]
  refine g_RSv (As := [.int (nI k), .int (nI (L.length + 1))]) (rest := []) ⟨hx, hb, hml, hown, hts⟩ (mt_X1_requirePlace l dC dI cA s.heap.size (nI k) (nI (L.length + 1)) (nI_pos (by omega)) (nI_lt (by omega) (by omega))) (va_cwS 2 hts gX1_insert_X1_requirePlace rfl rfl rfl hdX1_requirePlace ⟨Nat.le_of_ble_eq_true rfl, Nat.le_of_ble_eq_true rfl⟩) hP hK hD [] (by decide) rfl rfl hl.1 rfl (Nat.le_of_ble_eq_true rfl) dX1_insert_19 (Nat.zero_le _) (Nat.zero_le _) ?_
  refine lv_aload_n hx hb dX1_insert_22 rfl (lv_at hl 1 rfl) ?_
  refine lv_iload_n hx hb dX1_insert_23 rfl (lv_at hl 4 rfl) ?_
  refine g_RVv (As := [.int x]) (rest := []) ⟨hx, hb, hml, hown, hts⟩ (mt_X1_requireLetter l dC dI cA s.heap.size x0 r0 r1 r2 r3 (nI rn) x h0 h1 h2) (cwV 1 hts gX1_insert_X1_requireLetter rfl rfl rfl hdX1_requireLetter ⟨Nat.le_of_ble_eq_true rfl, Nat.le_of_ble_eq_true rfl⟩) hP hK hD [0] (by decide) rfl (va_recv hK hP (ci := 1) (q0 := 0) rfl rfl) rfl hl.1 rfl (Nat.le_of_ble_eq_true rfl) dX1_insert_24 (Nat.zero_le _) (Nat.zero_le _) ?_
  refine lv_aload hx hb dX1_insert_27 (lv_at hl 0 rfl) ?_
  refine lv_iconst (v := 2) hx hb dX1_insert_29 (by decide) ?_
  exact g_TS (As := [.ref r0, .int 2]) (rest := []) ⟨hx, hb, hml, hown, hts⟩ (th_X1_requireRoom l htr dC dI cA s.heap.size r0 a0 L f 2 (room_no L.length 2 (by omega) (by omega))) (va_cwS 2 hts gX1_insert_X1_requireRoom rfl rfl rfl hdX1_requireRoom ⟨Nat.le_of_ble_eq_true rfl, Nat.le_of_ble_eq_true rfl⟩) hP hK hD hA hZ [1, 2] (by decide) rfl rfl hl.1 rfl (Nat.le_of_ble_eq_true rfl) dX1_insert_30 (Nat.le_of_ble_eq_true rfl) (Nat.le_of_ble_eq_true rfl) hlocks hno

abbrev th_X1_cut_2_0_rm : Room := { frames := 6, cells := 1, slots := 6, locals := 90 }
set_option maxHeartbeats 4000000 in
set_option maxRecDepth 100000 in
/-- cut_2_0 -/
theorem th_X1_cut_2_0 (l : Launch) (htr : l.stackTraces = false) (dC : Nat → ClassId) (dI : Nat → Nat → Nat) (cA : ClassId) (sz : Nat) (x0 : Nat) (r0 : Nat) (r1 : Nat) (r2 : Nat) (r3 : Nat) (rn : Nat) (a0 : Nat) (L : List Int32) (f : Nat → Int32) (hR : RI L f) (he : enF L 0 = none) : vx_Met l yX1_cut wsX1_cut th_X1_cut_2_0_rm (va_Pc [.ref x0, .int (nI 0)] (gBT (dC, dI) [(cA, .int)] [(x0, .inr (1, [.ref r0, .ref r1, .ref r2, .ref r3, .int (nI rn)])), (r0, .inr (0, [.ref a0, .int (nI L.length)])), (a0, .inl (cA, (100, .inl f)))] sz)) gNo (gX gIS) 1 6 (fun _ => False) := by
  refine g_ofT (cc := cX1_cut) (maxL := 5) (ret := (some .int)) (XC := fun _ => gX gIS) (by decide) rfl (Nat.le_of_ble_eq_true rfl) (fun _ => False) (fun p e s m below meth c ls hx hb hml hts hown hlocks hno hP hK hl hsz hA hD hS hZ => ?_)
  have hl : lv_has ls 5 [(0, .ref x0), (1, .int (nI 0))] := hl
  have hL := hR.1
  refine lv_iload_n hx hb dX1_cut_0 rfl (lv_at hl 1 rfl) ?_
  refine g_RSv (As := [.int (nI 0)]) (rest := []) ⟨hx, hb, hml, hown, hts⟩ (mt_X1_requireWord l dC dI cA s.heap.size 0 (by first | omega | (simp only [List.length_append, List.length_cons, List.length_nil, List.length_set, turnL_len]; omega))) (va_cwS 1 hts gX1_cut_X1_requireWord rfl rfl rfl hdX1_requireWord ⟨Nat.le_of_ble_eq_true rfl, Nat.le_of_ble_eq_true rfl⟩) hP hK hD [] (by decide) rfl rfl hl.1 rfl (Nat.le_of_ble_eq_true rfl) dX1_cut_1 (Nat.zero_le _) (Nat.zero_le _) ?_
  refine lv_aload_n hx hb dX1_cut_4 rfl (lv_at hl 0 rfl) ?_
  refine lv_iload_n hx hb dX1_cut_5 rfl (lv_at hl 1 rfl) ?_
  refine g_RVr (As := [.int (nI 0)]) (rest := []) ⟨hx, hb, hml, hown, hts⟩ (mt_X1_rowOf0 l dC dI cA s.heap.size x0 r0 r1 r2 r3 (nI rn)) (cwV 1 hts gX1_cut_X1_rowOf rfl rfl rfl hdX1_rowOf ⟨Nat.le_of_ble_eq_true rfl, Nat.le_of_ble_eq_true rfl⟩) hP hK hD [0] (by decide) rfl (va_recv hK hP (ci := 1) (q0 := 0) rfl rfl) rfl hl.1 rfl (Nat.le_of_ble_eq_true rfl) dX1_cut_6 (Nat.zero_le _) (Nat.zero_le _) ?_
  refine lv_astore_n (lv' := [(2, .ref r0), (0, .ref x0), (1, .int (nI 0))]) hx hb dX1_cut_9 rfl hl (by decide) rfl (fun ls hl => ?_)
  refine lv_aload_n hx hb dX1_cut_10 rfl (lv_at hl 0 rfl) ?_
  refine lv_iconst (v := 0) hx hb dX1_cut_11 (by decide) ?_
  refine g_RSi (As := [.ref r0, .int 0]) (rest := []) ⟨hx, hb, hml, hown, hts⟩ (mt_X1_lastOfFirstHandle l dC dI cA s.heap.size r0 a0 L f 0 hR (by first | omega | (simp only [List.length_append, List.length_cons, List.length_nil, List.length_set, turnL_len]; omega))) (va_cwS 2 hts gX1_cut_X1_lastOfFirstHandle rfl rfl rfl hdX1_lastOfFirstHandle ⟨Nat.le_of_ble_eq_true rfl, Nat.le_of_ble_eq_true rfl⟩) hP hK hD [1, 2] (by decide) rfl rfl hl.1 rfl (Nat.le_of_ble_eq_true rfl) dX1_cut_12 (Nat.zero_le _) (Nat.zero_le _) ?_
  rw [show oiI (enF L 0) = -1 from by rw [he]; rfl]
  refine lv_istore_n (lv' := [(3, .int (-1)), (2, .ref r0), (0, .ref x0), (1, .int (nI 0))]) hx hb dX1_cut_15 rfl hl (by decide) rfl (fun ls hl => ?_)
  refine lv_iload_n hx hb dX1_cut_16 rfl (lv_at hl 0 rfl) ?_
  refine lv_iconst (v := (-1)) hx hb dX1_cut_17 (by decide) ?_
  refine lv_icmp_ne (tgt := 31) hx hb dX1_cut_18 (by decide) (fun c18 => ?_) (fun c18 => ?_)
  · exact absurd (by decide) c18
  · exact g_throw (text := "the word has no handle") hx hb htr hown (by decide) (hts (.classLink RX1 61 "java/lang/IllegalStateException") (List.mem_of_getElem? (i := 1) rfl)) (hts (.initialized "java/lang/IllegalStateException") (List.mem_of_getElem? (i := 2) rfl)) (fun w h => hts w (gx_X1_cut_gIS w h)) g_badIS g_otIS hZ (by decide +kernel) hS (hl.1.trans hml.symm) dX1_cut_21 dX1_cut_24 dX1_cut_25 dX1_cut_27 dX1_cut_30 hno (Nat.le_of_ble_eq_true rfl) (Nat.le_of_ble_eq_true rfl) (Nat.le_of_ble_eq_true rfl) (Nat.le_of_ble_eq_true rfl) hlocks (fun t _ h1 h2 => gX_here h1 h2) (fun q hq => absurd hq List.not_mem_nil) (Nat.le_refl _) (Nat.le_refl _)

abbrev th_X1_cut_2b_0_rm : Room := { frames := 7, cells := 1, slots := 6, locals := 111 }
set_option maxHeartbeats 4000000 in
set_option maxRecDepth 100000 in
/-- cut_2b_0 -/
theorem th_X1_cut_2b_0 (l : Launch) (htr : l.stackTraces = false) (dC : Nat → ClassId) (dI : Nat → Nat → Nat) (cA : ClassId) (sz : Nat) (x0 : Nat) (r0 : Nat) (r1 : Nat) (r2 : Nat) (r3 : Nat) (rn : Nat) (a0 : Nat) (L : List Int32) (f : Nat → Int32) (b9 : Nat) (e9 : Nat) (hR : RI L f) (he : enF L 0 = some e9) (hb9 : bg L e9 = some b9) (hk : 30 < (cutL L b9 e9).length) : vx_Met l yX1_cut wsX1_cut th_X1_cut_2b_0_rm (va_Pc [.ref x0, .int (nI 0)] (gBT (dC, dI) [(cA, .int)] [(x0, .inr (1, [.ref r0, .ref r1, .ref r2, .ref r3, .int (nI rn)])), (r0, .inr (0, [.ref a0, .int (nI L.length)])), (a0, .inl (cA, (100, .inl f)))] sz)) gNo (gX gIS) 1 6 (fun _ => False) := by
  refine g_ofT (cc := cX1_cut) (maxL := 5) (ret := (some .int)) (XC := fun _ => gX gIS) (by decide) rfl (Nat.le_of_ble_eq_true rfl) (fun _ => False) (fun p e s m below meth c ls hx hb hml hts hown hlocks hno hP hK hl hsz hA hD hS hZ => ?_)
  have hl : lv_has ls 5 [(0, .ref x0), (1, .int (nI 0))] := hl
  have hL := hR.1
  obtain ⟨-, he2, -, -⟩ := enF_spec he
  have hbl := bg_lt hb9
  have hcl := cutL_len hbl he2
  have hcn : cnL L b9 (e9 - (b9 + 1)) ≤ e9 - (b9 + 1) := cnL_le
  refine lv_iload_n hx hb dX1_cut_0 rfl (lv_at hl 1 rfl) ?_
  refine g_RSv (As := [.int (nI 0)]) (rest := []) ⟨hx, hb, hml, hown, hts⟩ (mt_X1_requireWord l dC dI cA s.heap.size 0 (by first | omega | (simp only [List.length_append, List.length_cons, List.length_nil, List.length_set, turnL_len]; omega))) (va_cwS 1 hts gX1_cut_X1_requireWord rfl rfl rfl hdX1_requireWord ⟨Nat.le_of_ble_eq_true rfl, Nat.le_of_ble_eq_true rfl⟩) hP hK hD [] (by decide) rfl rfl hl.1 rfl (Nat.le_of_ble_eq_true rfl) dX1_cut_1 (Nat.zero_le _) (Nat.zero_le _) ?_
  refine lv_aload_n hx hb dX1_cut_4 rfl (lv_at hl 0 rfl) ?_
  refine lv_iload_n hx hb dX1_cut_5 rfl (lv_at hl 1 rfl) ?_
  refine g_RVr (As := [.int (nI 0)]) (rest := []) ⟨hx, hb, hml, hown, hts⟩ (mt_X1_rowOf0 l dC dI cA s.heap.size x0 r0 r1 r2 r3 (nI rn)) (cwV 1 hts gX1_cut_X1_rowOf rfl rfl rfl hdX1_rowOf ⟨Nat.le_of_ble_eq_true rfl, Nat.le_of_ble_eq_true rfl⟩) hP hK hD [0] (by decide) rfl (va_recv hK hP (ci := 1) (q0 := 0) rfl rfl) rfl hl.1 rfl (Nat.le_of_ble_eq_true rfl) dX1_cut_6 (Nat.zero_le _) (Nat.zero_le _) ?_
  refine lv_astore_n (lv' := [(2, .ref r0), (0, .ref x0), (1, .int (nI 0))]) hx hb dX1_cut_9 rfl hl (by decide) rfl (fun ls hl => ?_)
  refine lv_aload_n hx hb dX1_cut_10 rfl (lv_at hl 0 rfl) ?_
  refine lv_iconst (v := 0) hx hb dX1_cut_11 (by decide) ?_
  refine g_RSi (As := [.ref r0, .int 0]) (rest := []) ⟨hx, hb, hml, hown, hts⟩ (mt_X1_lastOfFirstHandle l dC dI cA s.heap.size r0 a0 L f 0 hR (by first | omega | (simp only [List.length_append, List.length_cons, List.length_nil, List.length_set, turnL_len]; omega))) (va_cwS 2 hts gX1_cut_X1_lastOfFirstHandle rfl rfl rfl hdX1_lastOfFirstHandle ⟨Nat.le_of_ble_eq_true rfl, Nat.le_of_ble_eq_true rfl⟩) hP hK hD [1, 2] (by decide) rfl rfl hl.1 rfl (Nat.le_of_ble_eq_true rfl) dX1_cut_12 (Nat.zero_le _) (Nat.zero_le _) ?_
  rw [show oiI (enF L 0) = nI e9 from by rw [he]; rfl]
  refine lv_istore_n (lv' := [(3, .int (nI e9)), (2, .ref r0), (0, .ref x0), (1, .int (nI 0))]) hx hb dX1_cut_15 rfl hl (by decide) rfl (fun ls hl => ?_)
  refine lv_iload_n hx hb dX1_cut_16 rfl (lv_at hl 0 rfl) ?_
  refine lv_iconst (v := (-1)) hx hb dX1_cut_17 (by decide) ?_
  refine lv_icmp_ne (tgt := 31) hx hb dX1_cut_18 (by decide) (fun c18 => ?_) (fun c18 => ?_)
  · refine lv_aload_n hx hb dX1_cut_31 rfl (lv_at hl 1 rfl) ?_
    refine lv_iload_n hx hb dX1_cut_32 rfl (lv_at hl 0 rfl) ?_
    refine g_RSi (As := [.ref r0, .int (nI e9)]) (rest := []) ⟨hx, hb, hml, hown, hts⟩ (mt_X1_firstOfHandle l dC dI cA s.heap.size r0 a0 L f e9 hR (by first | omega | (simp only [List.length_append, List.length_cons, List.length_nil, List.length_set, turnL_len]; omega))) (va_cwS 2 hts gX1_cut_X1_firstOfHandle rfl rfl rfl hdX1_firstOfHandle ⟨Nat.le_of_ble_eq_true rfl, Nat.le_of_ble_eq_true rfl⟩) hP hK hD [1, 2] (by decide) rfl rfl hl.1 rfl (Nat.le_of_ble_eq_true rfl) dX1_cut_33 (Nat.zero_le _) (Nat.zero_le _) ?_
    rw [show oiI (bg L e9) = nI b9 from by rw [hb9]; rfl]
    refine lv_istore (lv' := [(4, .int (nI b9)), (3, .int (nI e9)), (2, .ref r0), (0, .ref x0), (1, .int (nI 0))]) hx hb dX1_cut_36 hl (by decide) rfl (fun ls hl => ?_)
    refine lv_aload_n hx hb dX1_cut_38 rfl (lv_at hl 2 rfl) ?_
    refine lv_aload_n hx hb dX1_cut_39 rfl (lv_at hl 2 rfl) ?_
    refine lv_iload hx hb dX1_cut_40 (lv_at hl 0 rfl) ?_
    refine lv_iload_n hx hb dX1_cut_42 rfl (lv_at hl 1 rfl) ?_
    refine g_RSi (As := [.ref r0, .int (nI b9), .int (nI e9)]) (rest := [.ref r0]) ⟨hx, hb, hml, hown, hts⟩ (mt_X1_moreByCutting l dC dI cA s.heap.size r0 a0 L f b9 e9 hR (by first | omega | (simp only [List.length_append, List.length_cons, List.length_nil, List.length_set, turnL_len]; omega)) (by first | omega | (simp only [List.length_append, List.length_cons, List.length_nil, List.length_set, turnL_len]; omega))) (va_cwS 3 hts gX1_cut_X1_moreByCutting rfl rfl rfl hdX1_moreByCutting ⟨Nat.le_of_ble_eq_true rfl, Nat.le_of_ble_eq_true rfl⟩) hP hK hD [1, 2] (by decide) rfl rfl hl.1 rfl (Nat.le_of_ble_eq_true rfl) dX1_cut_43 (Nat.zero_le _) (Nat.zero_le _) ?_
    exact g_TS (As := [.ref r0, .int (moI (cnL L b9 (e9 - (b9 + 1))))]) (rest := []) ⟨hx, hb, hml, hown, hts⟩ (th_X1_requireRoom l htr dC dI cA s.heap.size r0 a0 L f (moI (cnL L b9 (e9 - (b9 + 1)))) (by rw [cut_more hbl he2]; exact nI_ge hk (by omega))) (va_cwS 2 hts gX1_cut_X1_requireRoom rfl rfl rfl hdX1_requireRoom ⟨Nat.le_of_ble_eq_true rfl, Nat.le_of_ble_eq_true rfl⟩) hP hK hD hA hZ [1, 2] (by decide) rfl rfl hl.1 rfl (Nat.le_of_ble_eq_true rfl) dX1_cut_46 (Nat.le_of_ble_eq_true rfl) (Nat.le_of_ble_eq_true rfl) hlocks hno
  · exact absurd c18 (nI_nm1 (by omega))

abbrev th_X1_letter_1b_0_rm : Room := { frames := 7, cells := 1, slots := 6, locals := 111 }
set_option maxHeartbeats 4000000 in
set_option maxRecDepth 100000 in
/-- letter_1b_0 -/
theorem th_X1_letter_1b_0 (l : Launch) (htr : l.stackTraces = false) (dC : Nat → ClassId) (dI : Nat → Nat → Nat) (cA : ClassId) (sz : Nat) (x0 : Nat) (r0 : Nat) (r1 : Nat) (r2 : Nat) (r3 : Nat) (rn : Nat) (a0 : Nat) (L : List Int32) (f : Nat → Int32) (x : Int32) (hR : RI L f) (hbad : x < 0 ∨ nI L.length ≤ x) : vx_Met l yX1_letter wsX1_letter th_X1_letter_1b_0_rm (va_Pc [.ref x0, .int (nI 0), .int x] (gBT (dC, dI) [(cA, .int)] [(x0, .inr (1, [.ref r0, .ref r1, .ref r2, .ref r3, .int (nI rn)])), (r0, .inr (0, [.ref a0, .int (nI L.length)])), (a0, .inl (cA, (100, .inl f)))] sz)) gNo (gX gIO) 1 6 (fun _ => False) := by
  refine g_ofT (cc := cX1_letter) (maxL := 4) (ret := (some .int)) (XC := fun _ => gX gIO) (by decide) rfl (Nat.le_of_ble_eq_true rfl) (fun _ => False) (fun p e s m below meth c ls hx hb hml hts hown hlocks hno hP hK hl hsz hA hD hS hZ => ?_)
  have hl : lv_has ls 4 [(0, .ref x0), (1, .int (nI 0)), (2, .int x)] := hl
  have hL := hR.1
  refine lv_iload_n hx hb dX1_letter_0 rfl (lv_at hl 1 rfl) ?_
  refine g_RSv (As := [.int (nI 0)]) (rest := []) ⟨hx, hb, hml, hown, hts⟩ (mt_X1_requireWord l dC dI cA s.heap.size 0 (by first | omega | (simp only [List.length_append, List.length_cons, List.length_nil, List.length_set, turnL_len]; omega))) (va_cwS 1 hts gX1_letter_X1_requireWord rfl rfl rfl hdX1_requireWord ⟨Nat.le_of_ble_eq_true rfl, Nat.le_of_ble_eq_true rfl⟩) hP hK hD [] (by decide) rfl rfl hl.1 rfl (Nat.le_of_ble_eq_true rfl) dX1_letter_1 (Nat.zero_le _) (Nat.zero_le _) ?_
  refine lv_aload_n hx hb dX1_letter_4 rfl (lv_at hl 0 rfl) ?_
  refine lv_iload_n hx hb dX1_letter_5 rfl (lv_at hl 1 rfl) ?_
  refine g_RVr (As := [.int (nI 0)]) (rest := []) ⟨hx, hb, hml, hown, hts⟩ (mt_X1_rowOf0 l dC dI cA s.heap.size x0 r0 r1 r2 r3 (nI rn)) (cwV 1 hts gX1_letter_X1_rowOf rfl rfl rfl hdX1_rowOf ⟨Nat.le_of_ble_eq_true rfl, Nat.le_of_ble_eq_true rfl⟩) hP hK hD [0] (by decide) rfl (va_recv hK hP (ci := 1) (q0 := 0) rfl rfl) rfl hl.1 rfl (Nat.le_of_ble_eq_true rfl) dX1_letter_6 (Nat.zero_le _) (Nat.zero_le _) ?_
  refine lv_astore_n (lv' := [(3, .ref r0), (0, .ref x0), (1, .int (nI 0)), (2, .int x)]) hx hb dX1_letter_9 rfl hl (by decide) rfl (fun ls hl => ?_)
  refine lv_iload_n hx hb dX1_letter_10 rfl (lv_at hl 3 rfl) ?_
  refine lv_aload_n hx hb dX1_letter_11 rfl (lv_at hl 0 rfl) ?_
  refine g_RVi (As := []) (rest := [.int x]) ⟨hx, hb, hml, hown, hts⟩ (mt_X0_size l dC dI cA s.heap.size r0 a0 (nI L.length) f) (cwV 0 hts gX1_letter_X0_size rfl rfl rfl hdX0_size ⟨Nat.le_of_ble_eq_true rfl, Nat.le_of_ble_eq_true rfl⟩) hP hK hD [1, 2] (by decide) rfl (va_recv hK hP (ci := 0) (q0 := 1) rfl rfl) rfl hl.1 rfl (Nat.le_of_ble_eq_true rfl) dX1_letter_12 (Nat.zero_le _) (Nat.zero_le _) ?_
  exact g_TS (As := [.int x, .int (nI L.length)]) (rest := []) ⟨hx, hb, hml, hown, hts⟩ (th_X1_requirePlace l htr dC dI cA s.heap.size x (nI L.length) (by first | omega | (simp only [List.length_append, List.length_cons, List.length_nil, List.length_set, turnL_len]; omega))) (va_cwS 2 hts gX1_letter_X1_requirePlace rfl rfl rfl hdX1_requirePlace ⟨Nat.le_of_ble_eq_true rfl, Nat.le_of_ble_eq_true rfl⟩) hP hK hD hA hZ [] (by decide) rfl rfl hl.1 rfl (Nat.le_of_ble_eq_true rfl) dX1_letter_15 (Nat.le_of_ble_eq_true rfl) (Nat.le_of_ble_eq_true rfl) hlocks hno

abbrev th_X1_end_1b_0_rm : Room := { frames := 7, cells := 1, slots := 6, locals := 111 }
set_option maxHeartbeats 4000000 in
set_option maxRecDepth 100000 in
/-- end_1b_0 -/
theorem th_X1_end_1b_0 (l : Launch) (htr : l.stackTraces = false) (dC : Nat → ClassId) (dI : Nat → Nat → Nat) (cA : ClassId) (sz : Nat) (x0 : Nat) (r0 : Nat) (r1 : Nat) (r2 : Nat) (r3 : Nat) (rn : Nat) (x : Int32) (hbad : x < 0 ∨ nI rn ≤ x) : vx_Met l yX1_end wsX1_end th_X1_end_1b_0_rm (va_Pc [.ref x0, .int (nI 0), .int x] (gBT (dC, dI) [(cA, .int)] [(x0, .inr (1, [.ref r0, .ref r1, .ref r2, .ref r3, .int (nI rn)]))] sz)) gNo (gX gIO) 1 6 (fun _ => False) := by
  refine g_ofT (cc := cX1_end) (maxL := 3) (ret := (some .int)) (XC := fun _ => gX gIO) (by decide) rfl (Nat.le_of_ble_eq_true rfl) (fun _ => False) (fun p e s m below meth c ls hx hb hml hts hown hlocks hno hP hK hl hsz hA hD hS hZ => ?_)
  have hl : lv_has ls 3 [(0, .ref x0), (1, .int (nI 0)), (2, .int x)] := hl
  refine lv_iload_n hx hb dX1_end_0 rfl (lv_at hl 1 rfl) ?_
  refine g_RSv (As := [.int (nI 0)]) (rest := []) ⟨hx, hb, hml, hown, hts⟩ (mt_X1_requireWord l dC dI cA s.heap.size 0 (by first | omega | (simp only [List.length_append, List.length_cons, List.length_nil, List.length_set, turnL_len]; omega))) (va_cwS 1 hts gX1_end_X1_requireWord rfl rfl rfl hdX1_requireWord ⟨Nat.le_of_ble_eq_true rfl, Nat.le_of_ble_eq_true rfl⟩) hP hK hD [] (by decide) rfl rfl hl.1 rfl (Nat.le_of_ble_eq_true rfl) dX1_end_1 (Nat.zero_le _) (Nat.zero_le _) ?_
  refine lv_aload_n hx hb dX1_end_4 rfl (lv_at hl 0 rfl) ?_
  refine lv_iload_n hx hb dX1_end_5 rfl (lv_at hl 2 rfl) ?_
  exact g_TV (As := [.int x]) (rest := []) ⟨hx, hb, hml, hown, hts⟩ (th_X1_requireRope l htr dC dI cA s.heap.size x0 r0 r1 r2 r3 (nI rn) x (by first | omega | (simp only [List.length_append, List.length_cons, List.length_nil, List.length_set, turnL_len]; omega))) (cwV 1 hts gX1_end_X1_requireRope rfl rfl rfl hdX1_requireRope ⟨Nat.le_of_ble_eq_true rfl, Nat.le_of_ble_eq_true rfl⟩) hP hK hD hA hZ [0] (by decide) rfl (va_recv hK hP (ci := 1) (q0 := 0) rfl rfl) rfl hl.1 rfl (Nat.le_of_ble_eq_true rfl) dX1_end_6 (Nat.le_of_ble_eq_true rfl) (Nat.le_of_ble_eq_true rfl) hlocks hno

abbrev th_X1_crosses_1b_0_rm : Room := { frames := 7, cells := 1, slots := 6, locals := 111 }
set_option maxHeartbeats 4000000 in
set_option maxRecDepth 100000 in
/-- crosses_1b_0 -/
theorem th_X1_crosses_1b_0 (l : Launch) (htr : l.stackTraces = false) (dC : Nat → ClassId) (dI : Nat → Nat → Nat) (cA : ClassId) (sz : Nat) (x0 : Nat) (r0 : Nat) (r1 : Nat) (r2 : Nat) (r3 : Nat) (rn : Nat) (x : Int32) (y : Int32) (hbad : x < 0 ∨ nI rn ≤ x) : vx_Met l yX1_crosses wsX1_crosses th_X1_crosses_1b_0_rm (va_Pc [.ref x0, .int (nI 0), .int x, .int y] (gBT (dC, dI) [(cA, .int)] [(x0, .inr (1, [.ref r0, .ref r1, .ref r2, .ref r3, .int (nI rn)]))] sz)) gNo (gX gIO) 1 6 (fun _ => False) := by
  refine g_ofT (cc := cX1_crosses) (maxL := 4) (ret := (some .int)) (XC := fun _ => gX gIO) (by decide) rfl (Nat.le_of_ble_eq_true rfl) (fun _ => False) (fun p e s m below meth c ls hx hb hml hts hown hlocks hno hP hK hl hsz hA hD hS hZ => ?_)
  have hl : lv_has ls 4 [(0, .ref x0), (1, .int (nI 0)), (2, .int x), (3, .int y)] := hl
  refine lv_iload_n hx hb dX1_crosses_0 rfl (lv_at hl 1 rfl) ?_
  refine g_RSv (As := [.int (nI 0)]) (rest := []) ⟨hx, hb, hml, hown, hts⟩ (mt_X1_requireWord l dC dI cA s.heap.size 0 (by first | omega | (simp only [List.length_append, List.length_cons, List.length_nil, List.length_set, turnL_len]; omega))) (va_cwS 1 hts gX1_crosses_X1_requireWord rfl rfl rfl hdX1_requireWord ⟨Nat.le_of_ble_eq_true rfl, Nat.le_of_ble_eq_true rfl⟩) hP hK hD [] (by decide) rfl rfl hl.1 rfl (Nat.le_of_ble_eq_true rfl) dX1_crosses_1 (Nat.zero_le _) (Nat.zero_le _) ?_
  refine lv_aload_n hx hb dX1_crosses_4 rfl (lv_at hl 0 rfl) ?_
  refine lv_iload_n hx hb dX1_crosses_5 rfl (lv_at hl 2 rfl) ?_
  exact g_TV (As := [.int x]) (rest := []) ⟨hx, hb, hml, hown, hts⟩ (th_X1_requireRope l htr dC dI cA s.heap.size x0 r0 r1 r2 r3 (nI rn) x (by first | omega | (simp only [List.length_append, List.length_cons, List.length_nil, List.length_set, turnL_len]; omega))) (cwV 1 hts gX1_crosses_X1_requireRope rfl rfl rfl hdX1_requireRope ⟨Nat.le_of_ble_eq_true rfl, Nat.le_of_ble_eq_true rfl⟩) hP hK hD hA hZ [0] (by decide) rfl (va_recv hK hP (ci := 1) (q0 := 0) rfl rfl) rfl hl.1 rfl (Nat.le_of_ble_eq_true rfl) dX1_crosses_6 (Nat.le_of_ble_eq_true rfl) (Nat.le_of_ble_eq_true rfl) hlocks hno

abbrev th_X1_crosses_1c_0_rm : Room := { frames := 7, cells := 1, slots := 6, locals := 111 }
set_option maxHeartbeats 4000000 in
set_option maxRecDepth 100000 in
/-- crosses_1c_0 -/
theorem th_X1_crosses_1c_0 (l : Launch) (htr : l.stackTraces = false) (dC : Nat → ClassId) (dI : Nat → Nat → Nat) (cA : ClassId) (sz : Nat) (x0 : Nat) (r0 : Nat) (r1 : Nat) (r2 : Nat) (r3 : Nat) (rn : Nat) (x : Int32) (y : Int32) (h0 : ¬ x < 0) (h1 : x < nI rn) (hbad : y < 0 ∨ nI rn ≤ y) : vx_Met l yX1_crosses wsX1_crosses th_X1_crosses_1c_0_rm (va_Pc [.ref x0, .int (nI 0), .int x, .int y] (gBT (dC, dI) [(cA, .int)] [(x0, .inr (1, [.ref r0, .ref r1, .ref r2, .ref r3, .int (nI rn)]))] sz)) gNo (gX gIO) 1 6 (fun _ => False) := by
  refine g_ofT (cc := cX1_crosses) (maxL := 4) (ret := (some .int)) (XC := fun _ => gX gIO) (by decide) rfl (Nat.le_of_ble_eq_true rfl) (fun _ => False) (fun p e s m below meth c ls hx hb hml hts hown hlocks hno hP hK hl hsz hA hD hS hZ => ?_)
  have hl : lv_has ls 4 [(0, .ref x0), (1, .int (nI 0)), (2, .int x), (3, .int y)] := hl
  refine lv_iload_n hx hb dX1_crosses_0 rfl (lv_at hl 1 rfl) ?_
  refine g_RSv (As := [.int (nI 0)]) (rest := []) ⟨hx, hb, hml, hown, hts⟩ (mt_X1_requireWord l dC dI cA s.heap.size 0 (by first | omega | (simp only [List.length_append, List.length_cons, List.length_nil, List.length_set, turnL_len]; omega))) (va_cwS 1 hts gX1_crosses_X1_requireWord rfl rfl rfl hdX1_requireWord ⟨Nat.le_of_ble_eq_true rfl, Nat.le_of_ble_eq_true rfl⟩) hP hK hD [] (by decide) rfl rfl hl.1 rfl (Nat.le_of_ble_eq_true rfl) dX1_crosses_1 (Nat.zero_le _) (Nat.zero_le _) ?_
  refine lv_aload_n hx hb dX1_crosses_4 rfl (lv_at hl 0 rfl) ?_
  refine lv_iload_n hx hb dX1_crosses_5 rfl (lv_at hl 2 rfl) ?_
  refine g_RVv (As := [.int x]) (rest := []) ⟨hx, hb, hml, hown, hts⟩ (mt_X1_requireRope l dC dI cA s.heap.size x0 r0 r1 r2 r3 (nI rn) x h0 h1) (cwV 1 hts gX1_crosses_X1_requireRope rfl rfl rfl hdX1_requireRope ⟨Nat.le_of_ble_eq_true rfl, Nat.le_of_ble_eq_true rfl⟩) hP hK hD [0] (by decide) rfl (va_recv hK hP (ci := 1) (q0 := 0) rfl rfl) rfl hl.1 rfl (Nat.le_of_ble_eq_true rfl) dX1_crosses_6 (Nat.zero_le _) (Nat.zero_le _) ?_
  refine lv_aload_n hx hb dX1_crosses_9 rfl (lv_at hl 0 rfl) ?_
  refine lv_iload_n hx hb dX1_crosses_10 rfl (lv_at hl 3 rfl) ?_
  exact g_TV (As := [.int y]) (rest := []) ⟨hx, hb, hml, hown, hts⟩ (th_X1_requireRope l htr dC dI cA s.heap.size x0 r0 r1 r2 r3 (nI rn) y (by first | omega | (simp only [List.length_append, List.length_cons, List.length_nil, List.length_set, turnL_len]; omega))) (cwV 1 hts gX1_crosses_X1_requireRope rfl rfl rfl hdX1_requireRope ⟨Nat.le_of_ble_eq_true rfl, Nat.le_of_ble_eq_true rfl⟩) hP hK hD hA hZ [0] (by decide) rfl (va_recv hK hP (ci := 1) (q0 := 0) rfl rfl) rfl hl.1 rfl (Nat.le_of_ble_eq_true rfl) dX1_crosses_11 (Nat.le_of_ble_eq_true rfl) (Nat.le_of_ble_eq_true rfl) hlocks hno

abbrev th_X1_crosses_2_0_rm : Room := { frames := 6, cells := 1, slots := 6, locals := 90 }
set_option maxHeartbeats 4000000 in
set_option maxRecDepth 100000 in
/-- crosses_2_0 -/
theorem th_X1_crosses_2_0 (l : Launch) (htr : l.stackTraces = false) (dC : Nat → ClassId) (dI : Nat → Nat → Nat) (cA : ClassId) (sz : Nat) (x0 : Nat) (r0 : Nat) (r1 : Nat) (r2 : Nat) (r3 : Nat) (rn : Nat) (x : Int32) (y : Int32) (h0 : ¬ x < 0) (h1 : x < nI rn) (h2 : ¬ y < 0) (h3 : y < nI rn) (h4 : x = y) : vx_Met l yX1_crosses wsX1_crosses th_X1_crosses_2_0_rm (va_Pc [.ref x0, .int (nI 0), .int x, .int y] (gBT (dC, dI) [(cA, .int)] [(x0, .inr (1, [.ref r0, .ref r1, .ref r2, .ref r3, .int (nI rn)]))] sz)) gNo (gX gIA) 1 6 (fun _ => False) := by
  refine g_ofT (cc := cX1_crosses) (maxL := 4) (ret := (some .int)) (XC := fun _ => gX gIA) (by decide) rfl (Nat.le_of_ble_eq_true rfl) (fun _ => False) (fun p e s m below meth c ls hx hb hml hts hown hlocks hno hP hK hl hsz hA hD hS hZ => ?_)
  have hl : lv_has ls 4 [(0, .ref x0), (1, .int (nI 0)), (2, .int x), (3, .int y)] := hl
  refine lv_iload_n hx hb dX1_crosses_0 rfl (lv_at hl 1 rfl) ?_
  refine g_RSv (As := [.int (nI 0)]) (rest := []) ⟨hx, hb, hml, hown, hts⟩ (mt_X1_requireWord l dC dI cA s.heap.size 0 (by first | omega | (simp only [List.length_append, List.length_cons, List.length_nil, List.length_set, turnL_len]; omega))) (va_cwS 1 hts gX1_crosses_X1_requireWord rfl rfl rfl hdX1_requireWord ⟨Nat.le_of_ble_eq_true rfl, Nat.le_of_ble_eq_true rfl⟩) hP hK hD [] (by decide) rfl rfl hl.1 rfl (Nat.le_of_ble_eq_true rfl) dX1_crosses_1 (Nat.zero_le _) (Nat.zero_le _) ?_
  refine lv_aload_n hx hb dX1_crosses_4 rfl (lv_at hl 0 rfl) ?_
  refine lv_iload_n hx hb dX1_crosses_5 rfl (lv_at hl 2 rfl) ?_
  refine g_RVv (As := [.int x]) (rest := []) ⟨hx, hb, hml, hown, hts⟩ (mt_X1_requireRope l dC dI cA s.heap.size x0 r0 r1 r2 r3 (nI rn) x h0 h1) (cwV 1 hts gX1_crosses_X1_requireRope rfl rfl rfl hdX1_requireRope ⟨Nat.le_of_ble_eq_true rfl, Nat.le_of_ble_eq_true rfl⟩) hP hK hD [0] (by decide) rfl (va_recv hK hP (ci := 1) (q0 := 0) rfl rfl) rfl hl.1 rfl (Nat.le_of_ble_eq_true rfl) dX1_crosses_6 (Nat.zero_le _) (Nat.zero_le _) ?_
  refine lv_aload_n hx hb dX1_crosses_9 rfl (lv_at hl 0 rfl) ?_
  refine lv_iload_n hx hb dX1_crosses_10 rfl (lv_at hl 3 rfl) ?_
  refine g_RVv (As := [.int y]) (rest := []) ⟨hx, hb, hml, hown, hts⟩ (mt_X1_requireRope l dC dI cA s.heap.size x0 r0 r1 r2 r3 (nI rn) y h2 h3) (cwV 1 hts gX1_crosses_X1_requireRope rfl rfl rfl hdX1_requireRope ⟨Nat.le_of_ble_eq_true rfl, Nat.le_of_ble_eq_true rfl⟩) hP hK hD [0] (by decide) rfl (va_recv hK hP (ci := 1) (q0 := 0) rfl rfl) rfl hl.1 rfl (Nat.le_of_ble_eq_true rfl) dX1_crosses_11 (Nat.zero_le _) (Nat.zero_le _) ?_
  refine lv_iload_n hx hb dX1_crosses_14 rfl (lv_at hl 2 rfl) ?_
  refine lv_iload_n hx hb dX1_crosses_15 rfl (lv_at hl 3 rfl) ?_
  refine lv_icmp_ne (tgt := 29) hx hb dX1_crosses_16 (by decide) (fun c16 => ?_) (fun c16 => ?_)
  · exact absurd h4 c16
  · exact g_throw (text := "both ropes are the same") hx hb htr hown (by decide) (hts (.classLink RX1 29 "java/lang/IllegalArgumentException") (List.mem_of_getElem? (i := 1) rfl)) (hts (.initialized "java/lang/IllegalArgumentException") (List.mem_of_getElem? (i := 2) rfl)) (fun w h => hts w (gx_X1_crosses_gIA w h)) g_badIA g_otIA hZ (by decide +kernel) hS (hl.1.trans hml.symm) dX1_crosses_19 dX1_crosses_22 dX1_crosses_23 dX1_crosses_25 dX1_crosses_28 hno (Nat.le_of_ble_eq_true rfl) (Nat.le_of_ble_eq_true rfl) (Nat.le_of_ble_eq_true rfl) (Nat.le_of_ble_eq_true rfl) hlocks (fun t _ h1 h2 => gX_here h1 h2) (fun q hq => absurd hq List.not_mem_nil) (Nat.le_refl _) (Nat.le_refl _)

abbrev th_X1_handle_1b_0_rm : Room := { frames := 7, cells := 1, slots := 6, locals := 111 }
set_option maxHeartbeats 4000000 in
set_option maxRecDepth 100000 in
/-- handle_1b_0 -/
theorem th_X1_handle_1b_0 (l : Launch) (htr : l.stackTraces = false) (dC : Nat → ClassId) (dI : Nat → Nat → Nat) (cA : ClassId) (sz : Nat) (x0 : Nat) (r0 : Nat) (r1 : Nat) (r2 : Nat) (r3 : Nat) (rn : Nat) (x : Int32) (hbad : x < 0 ∨ 3 ≤ x) : vx_Met l yX1_handle wsX1_handle th_X1_handle_1b_0_rm (va_Pc [.ref x0, .int (nI 0), .int x] (gBT (dC, dI) [(cA, .int)] [(x0, .inr (1, [.ref r0, .ref r1, .ref r2, .ref r3, .int (nI rn)]))] sz)) gNo (gX gIO) 1 6 (fun _ => False) := by
  refine g_ofT (cc := cX1_handle) (maxL := 3) (ret := (some .int)) (XC := fun _ => gX gIO) (by decide) rfl (Nat.le_of_ble_eq_true rfl) (fun _ => False) (fun p e s m below meth c ls hx hb hml hts hown hlocks hno hP hK hl hsz hA hD hS hZ => ?_)
  have hl : lv_has ls 3 [(0, .ref x0), (1, .int (nI 0)), (2, .int x)] := hl
  refine lv_iload_n hx hb dX1_handle_0 rfl (lv_at hl 1 rfl) ?_
  refine g_RSv (As := [.int (nI 0)]) (rest := []) ⟨hx, hb, hml, hown, hts⟩ (mt_X1_requireWord l dC dI cA s.heap.size 0 (by first | omega | (simp only [List.length_append, List.length_cons, List.length_nil, List.length_set, turnL_len]; omega))) (va_cwS 1 hts gX1_handle_X1_requireWord rfl rfl rfl hdX1_requireWord ⟨Nat.le_of_ble_eq_true rfl, Nat.le_of_ble_eq_true rfl⟩) hP hK hD [] (by decide) rfl rfl hl.1 rfl (Nat.le_of_ble_eq_true rfl) dX1_handle_1 (Nat.zero_le _) (Nat.zero_le _) ?_
  refine lv_iload_n hx hb dX1_handle_4 rfl (lv_at hl 2 rfl) ?_
  refine lv_iconst (v := 3) hx hb dX1_handle_5 (by decide) ?_
  exact g_TS (As := [.int x, .int 3]) (rest := []) ⟨hx, hb, hml, hown, hts⟩ (th_X1_requireAnswer l htr dC dI cA s.heap.size x 3 (by first | omega | (simp only [List.length_append, List.length_cons, List.length_nil, List.length_set, turnL_len]; omega))) (va_cwS 2 hts gX1_handle_X1_requireAnswer rfl rfl rfl hdX1_requireAnswer ⟨Nat.le_of_ble_eq_true rfl, Nat.le_of_ble_eq_true rfl⟩) hP hK hD hA hZ [] (by decide) rfl rfl hl.1 rfl (Nat.le_of_ble_eq_true rfl) dX1_handle_6 (Nat.le_of_ble_eq_true rfl) (Nat.le_of_ble_eq_true rfl) hlocks hno

abbrev th_X1_plain_1b_0_rm : Room := { frames := 7, cells := 1, slots := 6, locals := 111 }
set_option maxHeartbeats 4000000 in
set_option maxRecDepth 100000 in
/-- plain_1b_0 -/
theorem th_X1_plain_1b_0 (l : Launch) (htr : l.stackTraces = false) (dC : Nat → ClassId) (dI : Nat → Nat → Nat) (cA : ClassId) (sz : Nat) (x0 : Nat) (r0 : Nat) (r1 : Nat) (r2 : Nat) (r3 : Nat) (rn : Nat) (x : Int32) (hbad : x < 0 ∨ 4 ≤ x) : vx_Met l yX1_plain wsX1_plain th_X1_plain_1b_0_rm (va_Pc [.ref x0, .int (nI 0), .int x] (gBT (dC, dI) [(cA, .int)] [(x0, .inr (1, [.ref r0, .ref r1, .ref r2, .ref r3, .int (nI rn)]))] sz)) gNo (gX gIO) 1 6 (fun _ => False) := by
  refine g_ofT (cc := cX1_plain) (maxL := 3) (ret := (some .int)) (XC := fun _ => gX gIO) (by decide) rfl (Nat.le_of_ble_eq_true rfl) (fun _ => False) (fun p e s m below meth c ls hx hb hml hts hown hlocks hno hP hK hl hsz hA hD hS hZ => ?_)
  have hl : lv_has ls 3 [(0, .ref x0), (1, .int (nI 0)), (2, .int x)] := hl
  refine lv_iload_n hx hb dX1_plain_0 rfl (lv_at hl 1 rfl) ?_
  refine g_RSv (As := [.int (nI 0)]) (rest := []) ⟨hx, hb, hml, hown, hts⟩ (mt_X1_requireWord l dC dI cA s.heap.size 0 (by first | omega | (simp only [List.length_append, List.length_cons, List.length_nil, List.length_set, turnL_len]; omega))) (va_cwS 1 hts gX1_plain_X1_requireWord rfl rfl rfl hdX1_requireWord ⟨Nat.le_of_ble_eq_true rfl, Nat.le_of_ble_eq_true rfl⟩) hP hK hD [] (by decide) rfl rfl hl.1 rfl (Nat.le_of_ble_eq_true rfl) dX1_plain_1 (Nat.zero_le _) (Nat.zero_le _) ?_
  refine lv_iload_n hx hb dX1_plain_4 rfl (lv_at hl 2 rfl) ?_
  refine lv_iconst (v := 4) hx hb dX1_plain_5 (by decide) ?_
  exact g_TS (As := [.int x, .int 4]) (rest := []) ⟨hx, hb, hml, hown, hts⟩ (th_X1_requireAnswer l htr dC dI cA s.heap.size x 4 (by first | omega | (simp only [List.length_append, List.length_cons, List.length_nil, List.length_set, turnL_len]; omega))) (va_cwS 2 hts gX1_plain_X1_requireAnswer rfl rfl rfl hdX1_requireAnswer ⟨Nat.le_of_ble_eq_true rfl, Nat.le_of_ble_eq_true rfl⟩) hP hK hD hA hZ [] (by decide) rfl rfl hl.1 rfl (Nat.le_of_ble_eq_true rfl) dX1_plain_6 (Nat.le_of_ble_eq_true rfl) (Nat.le_of_ble_eq_true rfl) hlocks hno

abbrev th_X1_advise_2_0_rm : Room := { frames := 6, cells := 1, slots := 6, locals := 95 }
abbrev th_X1_twist_2_1_rm : Room := { frames := 7, cells := 1, slots := 6, locals := 111 }
set_option maxHeartbeats 4000000 in
set_option maxRecDepth 100000 in
/-- twist_2_1 -/
theorem th_X1_twist_2_1 (l : Launch) (htr : l.stackTraces = false) (dC : Nat → ClassId) (dI : Nat → Nat → Nat) (cA : ClassId) (sz : Nat) (x0 : Nat) (r0 : Nat) (r1 : Nat) (r2 : Nat) (r3 : Nat) (rn : Nat) (x : Int32) (hbad : x = 0 ∨ x ≤ -nI rn ∨ nI rn ≤ x) : vx_Met l yX1_twist wsX1_twist th_X1_twist_2_1_rm (va_Pc [.ref x0, .int (nI 1), .int x] (gBT (dC, dI) [(cA, .int)] [(x0, .inr (1, [.ref r0, .ref r1, .ref r2, .ref r3, .int (nI rn)]))] sz)) gNo (gX gIA) 1 6 (fun _ => False) := by
  refine g_ofT (cc := cX1_twist) (maxL := 4) (ret := (some .int)) (XC := fun _ => gX gIA) (by decide) rfl (Nat.le_of_ble_eq_true rfl) (fun _ => False) (fun p e s m below meth c ls hx hb hml hts hown hlocks hno hP hK hl hsz hA hD hS hZ => ?_)
  have hl : lv_has ls 4 [(0, .ref x0), (1, .int (nI 1)), (2, .int x)] := hl
  refine lv_iload_n hx hb dX1_twist_0 rfl (lv_at hl 1 rfl) ?_
  refine g_RSv (As := [.int (nI 1)]) (rest := []) ⟨hx, hb, hml, hown, hts⟩ (mt_X1_requireWord l dC dI cA s.heap.size 1 (by first | omega | (simp only [List.length_append, List.length_cons, List.length_nil, List.length_set, turnL_len]; omega))) (va_cwS 1 hts gX1_twist_X1_requireWord rfl rfl rfl hdX1_requireWord ⟨Nat.le_of_ble_eq_true rfl, Nat.le_of_ble_eq_true rfl⟩) hP hK hD [] (by decide) rfl rfl hl.1 rfl (Nat.le_of_ble_eq_true rfl) dX1_twist_1 (Nat.zero_le _) (Nat.zero_le _) ?_
  refine lv_aload_n hx hb dX1_twist_4 rfl (lv_at hl 0 rfl) ?_
  refine lv_iload_n hx hb dX1_twist_5 rfl (lv_at hl 2 rfl) ?_
  exact g_TV (As := [.int x]) (rest := []) ⟨hx, hb, hml, hown, hts⟩ (th_X1_requireLetter l htr dC dI cA s.heap.size x0 r0 r1 r2 r3 (nI rn) x (by first | omega | (simp only [List.length_append, List.length_cons, List.length_nil, List.length_set, turnL_len]; omega))) (cwV 1 hts gX1_twist_X1_requireLetter rfl rfl rfl hdX1_requireLetter ⟨Nat.le_of_ble_eq_true rfl, Nat.le_of_ble_eq_true rfl⟩) hP hK hD hA hZ [0] (by decide) rfl (va_recv hK hP (ci := 1) (q0 := 0) rfl rfl) rfl hl.1 rfl (Nat.le_of_ble_eq_true rfl) dX1_twist_6 (Nat.le_of_ble_eq_true rfl) (Nat.le_of_ble_eq_true rfl) hlocks hno

abbrev th_X1_twist_3_1_rm : Room := { frames := 7, cells := 1, slots := 6, locals := 111 }
set_option maxHeartbeats 4000000 in
set_option maxRecDepth 100000 in
/-- twist_3_1 -/
theorem th_X1_twist_3_1 (l : Launch) (htr : l.stackTraces = false) (dC : Nat → ClassId) (dI : Nat → Nat → Nat) (cA : ClassId) (sz : Nat) (x0 : Nat) (r0 : Nat) (r1 : Nat) (r2 : Nat) (r3 : Nat) (rn : Nat) (a1 : Nat) (L : List Int32) (f : Nat → Int32) (x : Int32) (hR : RI L f) (h0 : ¬ x = 0) (h1 : ¬ x ≤ -nI rn) (h2 : x < nI rn) (hk : 30 ≤ L.length) : vx_Met l yX1_twist wsX1_twist th_X1_twist_3_1_rm (va_Pc [.ref x0, .int (nI 1), .int x] (gBT (dC, dI) [(cA, .int)] [(x0, .inr (1, [.ref r0, .ref r1, .ref r2, .ref r3, .int (nI rn)])), (r1, .inr (0, [.ref a1, .int (nI L.length)])), (a1, .inl (cA, (100, .inl f)))] sz)) gNo (gX gIS) 1 6 (fun _ => False) := by
  refine g_ofT (cc := cX1_twist) (maxL := 4) (ret := (some .int)) (XC := fun _ => gX gIS) (by decide) rfl (Nat.le_of_ble_eq_true rfl) (fun _ => False) (fun p e s m below meth c ls hx hb hml hts hown hlocks hno hP hK hl hsz hA hD hS hZ => ?_)
  have hl : lv_has ls 4 [(0, .ref x0), (1, .int (nI 1)), (2, .int x)] := hl
  have hL := hR.1
  refine lv_iload_n hx hb dX1_twist_0 rfl (lv_at hl 1 rfl) ?_
  refine g_RSv (As := [.int (nI 1)]) (rest := []) ⟨hx, hb, hml, hown, hts⟩ (mt_X1_requireWord l dC dI cA s.heap.size 1 (by first | omega | (simp only [List.length_append, List.length_cons, List.length_nil, List.length_set, turnL_len]; omega))) (va_cwS 1 hts gX1_twist_X1_requireWord rfl rfl rfl hdX1_requireWord ⟨Nat.le_of_ble_eq_true rfl, Nat.le_of_ble_eq_true rfl⟩) hP hK hD [] (by decide) rfl rfl hl.1 rfl (Nat.le_of_ble_eq_true rfl) dX1_twist_1 (Nat.zero_le _) (Nat.zero_le _) ?_
  refine lv_aload_n hx hb dX1_twist_4 rfl (lv_at hl 0 rfl) ?_
  refine lv_iload_n hx hb dX1_twist_5 rfl (lv_at hl 2 rfl) ?_
  refine g_RVv (As := [.int x]) (rest := []) ⟨hx, hb, hml, hown, hts⟩ (mt_X1_requireLetter l dC dI cA s.heap.size x0 r0 r1 r2 r3 (nI rn) x h0 h1 h2) (cwV 1 hts gX1_twist_X1_requireLetter rfl rfl rfl hdX1_requireLetter ⟨Nat.le_of_ble_eq_true rfl, Nat.le_of_ble_eq_true rfl⟩) hP hK hD [0] (by decide) rfl (va_recv hK hP (ci := 1) (q0 := 0) rfl rfl) rfl hl.1 rfl (Nat.le_of_ble_eq_true rfl) dX1_twist_6 (Nat.zero_le _) (Nat.zero_le _) ?_
  refine lv_aload_n hx hb dX1_twist_9 rfl (lv_at hl 0 rfl) ?_
  refine lv_iload_n hx hb dX1_twist_10 rfl (lv_at hl 1 rfl) ?_
  refine g_RVr (As := [.int (nI 1)]) (rest := []) ⟨hx, hb, hml, hown, hts⟩ (mt_X1_rowOf1 l dC dI cA s.heap.size x0 r0 r1 r2 r3 (nI rn)) (cwV 1 hts gX1_twist_X1_rowOf rfl rfl rfl hdX1_rowOf ⟨Nat.le_of_ble_eq_true rfl, Nat.le_of_ble_eq_true rfl⟩) hP hK hD [0] (by decide) rfl (va_recv hK hP (ci := 1) (q0 := 0) rfl rfl) rfl hl.1 rfl (Nat.le_of_ble_eq_true rfl) dX1_twist_11 (Nat.zero_le _) (Nat.zero_le _) ?_
  refine lv_astore_n (lv' := [(3, .ref r1), (0, .ref x0), (1, .int (nI 1)), (2, .int x)]) hx hb dX1_twist_14 rfl hl (by decide) rfl (fun ls hl => ?_)
  refine lv_aload_n hx hb dX1_twist_15 rfl (lv_at hl 0 rfl) ?_
  refine lv_iconst (v := 1) hx hb dX1_twist_16 (by decide) ?_
  exact g_TS (As := [.ref r1, .int 1]) (rest := []) ⟨hx, hb, hml, hown, hts⟩ (th_X1_requireRoom l htr dC dI cA s.heap.size r1 a1 L f 1 (room_no L.length 1 (by omega) (by omega))) (va_cwS 2 hts gX1_twist_X1_requireRoom rfl rfl rfl hdX1_requireRoom ⟨Nat.le_of_ble_eq_true rfl, Nat.le_of_ble_eq_true rfl⟩) hP hK hD hA hZ [1, 2] (by decide) rfl rfl hl.1 rfl (Nat.le_of_ble_eq_true rfl) dX1_twist_17 (Nat.le_of_ble_eq_true rfl) (Nat.le_of_ble_eq_true rfl) hlocks hno

abbrev th_X1_untwist_2_1_rm : Room := { frames := 6, cells := 1, slots := 6, locals := 90 }
set_option maxHeartbeats 4000000 in
set_option maxRecDepth 100000 in
/-- untwist_2_1 -/
theorem th_X1_untwist_2_1 (l : Launch) (htr : l.stackTraces = false) (dC : Nat → ClassId) (dI : Nat → Nat → Nat) (cA : ClassId) (sz : Nat) (x0 : Nat) (r0 : Nat) (r1 : Nat) (r2 : Nat) (r3 : Nat) (rn : Nat) (a1 : Nat) (L : List Int32) (f : Nat → Int32) (hR : RI L f) (hk : L.length = 0) : vx_Met l yX1_untwist wsX1_untwist th_X1_untwist_2_1_rm (va_Pc [.ref x0, .int (nI 1)] (gBT (dC, dI) [(cA, .int)] [(x0, .inr (1, [.ref r0, .ref r1, .ref r2, .ref r3, .int (nI rn)])), (r1, .inr (0, [.ref a1, .int (nI L.length)])), (a1, .inl (cA, (100, .inl f)))] sz)) gNo (gX gIS) 1 6 (fun _ => False) := by
  refine g_ofT (cc := cX1_untwist) (maxL := 4) (ret := (some .int)) (XC := fun _ => gX gIS) (by decide) rfl (Nat.le_of_ble_eq_true rfl) (fun _ => False) (fun p e s m below meth c ls hx hb hml hts hown hlocks hno hP hK hl hsz hA hD hS hZ => ?_)
  have hl : lv_has ls 4 [(0, .ref x0), (1, .int (nI 1))] := hl
  have hL := hR.1
  refine lv_iload_n hx hb dX1_untwist_0 rfl (lv_at hl 1 rfl) ?_
  refine g_RSv (As := [.int (nI 1)]) (rest := []) ⟨hx, hb, hml, hown, hts⟩ (mt_X1_requireWord l dC dI cA s.heap.size 1 (by first | omega | (simp only [List.length_append, List.length_cons, List.length_nil, List.length_set, turnL_len]; omega))) (va_cwS 1 hts gX1_untwist_X1_requireWord rfl rfl rfl hdX1_requireWord ⟨Nat.le_of_ble_eq_true rfl, Nat.le_of_ble_eq_true rfl⟩) hP hK hD [] (by decide) rfl rfl hl.1 rfl (Nat.le_of_ble_eq_true rfl) dX1_untwist_1 (Nat.zero_le _) (Nat.zero_le _) ?_
  refine lv_aload_n hx hb dX1_untwist_4 rfl (lv_at hl 0 rfl) ?_
  refine lv_iload_n hx hb dX1_untwist_5 rfl (lv_at hl 1 rfl) ?_
  refine g_RVr (As := [.int (nI 1)]) (rest := []) ⟨hx, hb, hml, hown, hts⟩ (mt_X1_rowOf1 l dC dI cA s.heap.size x0 r0 r1 r2 r3 (nI rn)) (cwV 1 hts gX1_untwist_X1_rowOf rfl rfl rfl hdX1_rowOf ⟨Nat.le_of_ble_eq_true rfl, Nat.le_of_ble_eq_true rfl⟩) hP hK hD [0] (by decide) rfl (va_recv hK hP (ci := 1) (q0 := 0) rfl rfl) rfl hl.1 rfl (Nat.le_of_ble_eq_true rfl) dX1_untwist_6 (Nat.zero_le _) (Nat.zero_le _) ?_
  refine lv_astore_n (lv' := [(2, .ref r1), (0, .ref x0), (1, .int (nI 1))]) hx hb dX1_untwist_9 rfl hl (by decide) rfl (fun ls hl => ?_)
  refine lv_aload_n hx hb dX1_untwist_10 rfl (lv_at hl 0 rfl) ?_
  refine g_RVi (As := []) (rest := []) ⟨hx, hb, hml, hown, hts⟩ (mt_X0_size l dC dI cA s.heap.size r1 a1 (nI L.length) f) (cwV 0 hts gX1_untwist_X0_size rfl rfl rfl hdX0_size ⟨Nat.le_of_ble_eq_true rfl, Nat.le_of_ble_eq_true rfl⟩) hP hK hD [1, 2] (by decide) rfl (va_recv hK hP (ci := 0) (q0 := 1) rfl rfl) rfl hl.1 rfl (Nat.le_of_ble_eq_true rfl) dX1_untwist_11 (Nat.zero_le _) (Nat.zero_le _) ?_
  refine lv_if_ne (tgt := 27) hx hb dX1_untwist_14 (by decide) (fun c14 => ?_) (fun c14 => ?_)
  · exact absurd (g_neT L.length 0 (by omega) (by omega) c14) (by omega)
  · have c14 : L.length = 0 := g_neF L.length 0 (by omega) (by omega) c14
    exact g_throw (text := "the word is empty") hx hb htr hown (by decide) (hts (.classLink RX1 61 "java/lang/IllegalStateException") (List.mem_of_getElem? (i := 1) rfl)) (hts (.initialized "java/lang/IllegalStateException") (List.mem_of_getElem? (i := 2) rfl)) (fun w h => hts w (gx_X1_untwist_gIS w h)) g_badIS g_otIS hZ (by decide +kernel) hS (hl.1.trans hml.symm) dX1_untwist_17 dX1_untwist_20 dX1_untwist_21 dX1_untwist_23 dX1_untwist_26 hno (Nat.le_of_ble_eq_true rfl) (Nat.le_of_ble_eq_true rfl) (Nat.le_of_ble_eq_true rfl) (Nat.le_of_ble_eq_true rfl) hlocks (fun t _ h1 h2 => gX_here h1 h2) (fun q hq => absurd hq List.not_mem_nil) (Nat.le_refl _) (Nat.le_refl _)

abbrev th_X1_join_2_1_rm : Room := { frames := 7, cells := 1, slots := 6, locals := 111 }
set_option maxHeartbeats 4000000 in
set_option maxRecDepth 100000 in
/-- join_2_1 -/
theorem th_X1_join_2_1 (l : Launch) (htr : l.stackTraces = false) (dC : Nat → ClassId) (dI : Nat → Nat → Nat) (cA : ClassId) (sz : Nat) (x0 : Nat) (r0 : Nat) (r1 : Nat) (r2 : Nat) (r3 : Nat) (rn : Nat) (a1 : Nat) (a0 : Nat) (L : List Int32) (f : Nat → Int32) (M : List Int32) (f9 : Nat → Int32) (hR : RI L f) (hR9 : RI M f9) (hk : 30 < L.length + M.length) : vx_Met l yX1_join wsX1_join th_X1_join_2_1_rm (va_Pc [.ref x0, .int (nI 1)] (gBT (dC, dI) [(cA, .int)] [(x0, .inr (1, [.ref r0, .ref r1, .ref r2, .ref r3, .int (nI rn)])), (r1, .inr (0, [.ref a1, .int (nI L.length)])), (a1, .inl (cA, (100, .inl f))), (r0, .inr (0, [.ref a0, .int (nI M.length)])), (a0, .inl (cA, (100, .inl f9)))] sz)) gNo (gX gIS) 1 6 (fun _ => False) := by
  refine g_ofT (cc := cX1_join) (maxL := 4) (ret := (some .int)) (XC := fun _ => gX gIS) (by decide) rfl (Nat.le_of_ble_eq_true rfl) (fun _ => False) (fun p e s m below meth c ls hx hb hml hts hown hlocks hno hP hK hl hsz hA hD hS hZ => ?_)
  have hl : lv_has ls 4 [(0, .ref x0), (1, .int (nI 1))] := hl
  have hL := hR.1
  have hM := hR9.1
  refine lv_iload_n hx hb dX1_join_0 rfl (lv_at hl 1 rfl) ?_
  refine g_RSv (As := [.int (nI 1)]) (rest := []) ⟨hx, hb, hml, hown, hts⟩ (mt_X1_requireWord l dC dI cA s.heap.size 1 (by first | omega | (simp only [List.length_append, List.length_cons, List.length_nil, List.length_set, turnL_len]; omega))) (va_cwS 1 hts gX1_join_X1_requireWord rfl rfl rfl hdX1_requireWord ⟨Nat.le_of_ble_eq_true rfl, Nat.le_of_ble_eq_true rfl⟩) hP hK hD [] (by decide) rfl rfl hl.1 rfl (Nat.le_of_ble_eq_true rfl) dX1_join_1 (Nat.zero_le _) (Nat.zero_le _) ?_
  refine lv_aload_n hx hb dX1_join_4 rfl (lv_at hl 0 rfl) ?_
  refine lv_iload_n hx hb dX1_join_5 rfl (lv_at hl 1 rfl) ?_
  refine g_RVr (As := [.int (nI 1)]) (rest := []) ⟨hx, hb, hml, hown, hts⟩ (mt_X1_rowOf1 l dC dI cA s.heap.size x0 r0 r1 r2 r3 (nI rn)) (cwV 1 hts gX1_join_X1_rowOf rfl rfl rfl hdX1_rowOf ⟨Nat.le_of_ble_eq_true rfl, Nat.le_of_ble_eq_true rfl⟩) hP hK hD [0] (by decide) rfl (va_recv hK hP (ci := 1) (q0 := 0) rfl rfl) rfl hl.1 rfl (Nat.le_of_ble_eq_true rfl) dX1_join_6 (Nat.zero_le _) (Nat.zero_le _) ?_
  refine lv_astore_n (lv' := [(2, .ref r1), (0, .ref x0), (1, .int (nI 1))]) hx hb dX1_join_9 rfl hl (by decide) rfl (fun ls hl => ?_)
  refine lv_aload_n hx hb dX1_join_10 rfl (lv_at hl 1 rfl) ?_
  refine lv_iconst (v := 1) hx hb dX1_join_11 (by decide) ?_
  refine lv_iload_n hx hb dX1_join_12 rfl (lv_at hl 2 rfl) ?_
  refine lv_isub hx hb dX1_join_13 ?_
  rw [show (1 : Int32) - nI 1 = nI 0 from by decide]
  refine g_RVr (As := [.int (nI 0)]) (rest := []) ⟨hx, hb, hml, hown, hts⟩ (mt_X1_rowOf0 l dC dI cA s.heap.size x0 r0 r1 r2 r3 (nI rn)) (cwV 1 hts gX1_join_X1_rowOf rfl rfl rfl hdX1_rowOf ⟨Nat.le_of_ble_eq_true rfl, Nat.le_of_ble_eq_true rfl⟩) hP hK hD [0] (by decide) rfl (va_recv hK hP (ci := 1) (q0 := 0) rfl rfl) rfl hl.1 rfl (Nat.le_of_ble_eq_true rfl) dX1_join_14 (Nat.zero_le _) (Nat.zero_le _) ?_
  refine lv_astore_n (lv' := [(3, .ref r0), (2, .ref r1), (0, .ref x0), (1, .int (nI 1))]) hx hb dX1_join_17 rfl hl (by decide) rfl (fun ls hl => ?_)
  refine lv_aload_n hx hb dX1_join_18 rfl (lv_at hl 1 rfl) ?_
  refine lv_aload_n hx hb dX1_join_19 rfl (lv_at hl 0 rfl) ?_
  refine g_RVi (As := []) (rest := [.ref r1]) ⟨hx, hb, hml, hown, hts⟩ (mt_X0_size l dC dI cA s.heap.size r0 a0 (nI M.length) f9) (cwV 0 hts gX1_join_X0_size rfl rfl rfl hdX0_size ⟨Nat.le_of_ble_eq_true rfl, Nat.le_of_ble_eq_true rfl⟩) hP hK hD [3, 4] (by decide) rfl (va_recv hK hP (ci := 0) (q0 := 3) rfl rfl) rfl hl.1 rfl (Nat.le_of_ble_eq_true rfl) dX1_join_20 (Nat.zero_le _) (Nat.zero_le _) ?_
  exact g_TS (As := [.ref r1, .int (nI M.length)]) (rest := []) ⟨hx, hb, hml, hown, hts⟩ (th_X1_requireRoom l htr dC dI cA s.heap.size r1 a1 L f (nI M.length) (room_no L.length M.length (by omega) (by omega))) (va_cwS 2 hts gX1_join_X1_requireRoom rfl rfl rfl hdX1_requireRoom ⟨Nat.le_of_ble_eq_true rfl, Nat.le_of_ble_eq_true rfl⟩) hP hK hD hA hZ [1, 2] (by decide) rfl rfl hl.1 rfl (Nat.le_of_ble_eq_true rfl) dX1_join_23 (Nat.le_of_ble_eq_true rfl) (Nat.le_of_ble_eq_true rfl) hlocks hno

abbrev th_X1_swap_1b_1_rm : Room := { frames := 7, cells := 1, slots := 6, locals := 111 }
set_option maxHeartbeats 4000000 in
set_option maxRecDepth 100000 in
/-- swap_1b_1 -/
theorem th_X1_swap_1b_1 (l : Launch) (htr : l.stackTraces = false) (dC : Nat → ClassId) (dI : Nat → Nat → Nat) (cA : ClassId) (sz : Nat) (x0 : Nat) (r0 : Nat) (r1 : Nat) (r2 : Nat) (r3 : Nat) (rn : Nat) (a1 : Nat) (L : List Int32) (f : Nat → Int32) (x : Int32) (hR : RI L f) (hbad : x < 0 ∨ plI L.length ≤ x) : vx_Met l yX1_swap wsX1_swap th_X1_swap_1b_1_rm (va_Pc [.ref x0, .int (nI 1), .int x] (gBT (dC, dI) [(cA, .int)] [(x0, .inr (1, [.ref r0, .ref r1, .ref r2, .ref r3, .int (nI rn)])), (r1, .inr (0, [.ref a1, .int (nI L.length)])), (a1, .inl (cA, (100, .inl f)))] sz)) gNo (gX gIO) 1 6 (fun _ => False) := by
  refine g_ofT (cc := cX1_swap) (maxL := 6) (ret := (some .int)) (XC := fun _ => gX gIO) (by decide) rfl (Nat.le_of_ble_eq_true rfl) (fun _ => False) (fun p e s m below meth c ls hx hb hml hts hown hlocks hno hP hK hl hsz hA hD hS hZ => ?_)
  have hl : lv_has ls 6 [(0, .ref x0), (1, .int (nI 1)), (2, .int x)] := hl
  have hL := hR.1
  refine lv_iload_n hx hb dX1_swap_0 rfl (lv_at hl 1 rfl) ?_
  refine g_RSv (As := [.int (nI 1)]) (rest := []) ⟨hx, hb, hml, hown, hts⟩ (mt_X1_requireWord l dC dI cA s.heap.size 1 (by first | omega | (simp only [List.length_append, List.length_cons, List.length_nil, List.length_set, turnL_len]; omega))) (va_cwS 1 hts gX1_swap_X1_requireWord rfl rfl rfl hdX1_requireWord ⟨Nat.le_of_ble_eq_true rfl, Nat.le_of_ble_eq_true rfl⟩) hP hK hD [] (by decide) rfl rfl hl.1 rfl (Nat.le_of_ble_eq_true rfl) dX1_swap_1 (Nat.zero_le _) (Nat.zero_le _) ?_
  refine lv_aload_n hx hb dX1_swap_4 rfl (lv_at hl 0 rfl) ?_
  refine lv_iload_n hx hb dX1_swap_5 rfl (lv_at hl 1 rfl) ?_
  refine g_RVr (As := [.int (nI 1)]) (rest := []) ⟨hx, hb, hml, hown, hts⟩ (mt_X1_rowOf1 l dC dI cA s.heap.size x0 r0 r1 r2 r3 (nI rn)) (cwV 1 hts gX1_swap_X1_rowOf rfl rfl rfl hdX1_rowOf ⟨Nat.le_of_ble_eq_true rfl, Nat.le_of_ble_eq_true rfl⟩) hP hK hD [0] (by decide) rfl (va_recv hK hP (ci := 1) (q0 := 0) rfl rfl) rfl hl.1 rfl (Nat.le_of_ble_eq_true rfl) dX1_swap_6 (Nat.zero_le _) (Nat.zero_le _) ?_
  refine lv_astore_n (lv' := [(3, .ref r1), (0, .ref x0), (1, .int (nI 1)), (2, .int x)]) hx hb dX1_swap_9 rfl hl (by decide) rfl (fun ls hl => ?_)
  refine lv_iload_n hx hb dX1_swap_10 rfl (lv_at hl 3 rfl) ?_
  refine lv_aload_n hx hb dX1_swap_11 rfl (lv_at hl 0 rfl) ?_
  refine g_RVi (As := []) (rest := [.int x]) ⟨hx, hb, hml, hown, hts⟩ (mt_X0_size l dC dI cA s.heap.size r1 a1 (nI L.length) f) (cwV 0 hts gX1_swap_X0_size rfl rfl rfl hdX0_size ⟨Nat.le_of_ble_eq_true rfl, Nat.le_of_ble_eq_true rfl⟩) hP hK hD [1, 2] (by decide) rfl (va_recv hK hP (ci := 0) (q0 := 1) rfl rfl) rfl hl.1 rfl (Nat.le_of_ble_eq_true rfl) dX1_swap_12 (Nat.zero_le _) (Nat.zero_le _) ?_
  refine lv_iconst (v := 1) hx hb dX1_swap_15 (by decide) ?_
  refine lv_isub hx hb dX1_swap_16 ?_
  rw [plI_sub L.length]
  exact g_TS (As := [.int x, .int (plI L.length)]) (rest := []) ⟨hx, hb, hml, hown, hts⟩ (th_X1_requirePlace l htr dC dI cA s.heap.size x (plI L.length) (by first | omega | (simp only [List.length_append, List.length_cons, List.length_nil, List.length_set, turnL_len]; omega))) (va_cwS 2 hts gX1_swap_X1_requirePlace rfl rfl rfl hdX1_requirePlace ⟨Nat.le_of_ble_eq_true rfl, Nat.le_of_ble_eq_true rfl⟩) hP hK hD hA hZ [] (by decide) rfl rfl hl.1 rfl (Nat.le_of_ble_eq_true rfl) dX1_swap_17 (Nat.le_of_ble_eq_true rfl) (Nat.le_of_ble_eq_true rfl) hlocks hno

abbrev th_X1_swap_2_1_rm : Room := { frames := 6, cells := 1, slots := 6, locals := 90 }
set_option maxHeartbeats 4000000 in
set_option maxRecDepth 100000 in
/-- swap_2_1 -/
theorem th_X1_swap_2_1 (l : Launch) (htr : l.stackTraces = false) (dC : Nat → ClassId) (dI : Nat → Nat → Nat) (cA : ClassId) (sz : Nat) (x0 : Nat) (r0 : Nat) (r1 : Nat) (r2 : Nat) (r3 : Nat) (rn : Nat) (a1 : Nat) (L : List Int32) (f : Nat → Int32) (k : Nat) (hR : RI L f) (hk : k + 1 < L.length) (hap : abI (abI (atL L k) - abI (atL L (k + 1))) < 2) : vx_Met l yX1_swap wsX1_swap th_X1_swap_2_1_rm (va_Pc [.ref x0, .int (nI 1), .int (nI k)] (gBT (dC, dI) [(cA, .int)] [(x0, .inr (1, [.ref r0, .ref r1, .ref r2, .ref r3, .int (nI rn)])), (r1, .inr (0, [.ref a1, .int (nI L.length)])), (a1, .inl (cA, (100, .inl f)))] sz)) gNo (gX gIS) 1 6 (fun _ => False) := by
  refine g_ofT (cc := cX1_swap) (maxL := 6) (ret := (some .int)) (XC := fun _ => gX gIS) (by decide) rfl (Nat.le_of_ble_eq_true rfl) (fun _ => False) (fun p e s m below meth c ls hx hb hml hts hown hlocks hno hP hK hl hsz hA hD hS hZ => ?_)
  have hl : lv_has ls 6 [(0, .ref x0), (1, .int (nI 1)), (2, .int (nI k))] := hl
  have hL := hR.1
  refine lv_iload_n hx hb dX1_swap_0 rfl (lv_at hl 1 rfl) ?_
  refine g_RSv (As := [.int (nI 1)]) (rest := []) ⟨hx, hb, hml, hown, hts⟩ (mt_X1_requireWord l dC dI cA s.heap.size 1 (by first | omega | (simp only [List.length_append, List.length_cons, List.length_nil, List.length_set, turnL_len]; omega))) (va_cwS 1 hts gX1_swap_X1_requireWord rfl rfl rfl hdX1_requireWord ⟨Nat.le_of_ble_eq_true rfl, Nat.le_of_ble_eq_true rfl⟩) hP hK hD [] (by decide) rfl rfl hl.1 rfl (Nat.le_of_ble_eq_true rfl) dX1_swap_1 (Nat.zero_le _) (Nat.zero_le _) ?_
  refine lv_aload_n hx hb dX1_swap_4 rfl (lv_at hl 0 rfl) ?_
  refine lv_iload_n hx hb dX1_swap_5 rfl (lv_at hl 1 rfl) ?_
  refine g_RVr (As := [.int (nI 1)]) (rest := []) ⟨hx, hb, hml, hown, hts⟩ (mt_X1_rowOf1 l dC dI cA s.heap.size x0 r0 r1 r2 r3 (nI rn)) (cwV 1 hts gX1_swap_X1_rowOf rfl rfl rfl hdX1_rowOf ⟨Nat.le_of_ble_eq_true rfl, Nat.le_of_ble_eq_true rfl⟩) hP hK hD [0] (by decide) rfl (va_recv hK hP (ci := 1) (q0 := 0) rfl rfl) rfl hl.1 rfl (Nat.le_of_ble_eq_true rfl) dX1_swap_6 (Nat.zero_le _) (Nat.zero_le _) ?_
  refine lv_astore_n (lv' := [(3, .ref r1), (0, .ref x0), (1, .int (nI 1)), (2, .int (nI k))]) hx hb dX1_swap_9 rfl hl (by decide) rfl (fun ls hl => ?_)
  refine lv_iload_n hx hb dX1_swap_10 rfl (lv_at hl 3 rfl) ?_
  refine lv_aload_n hx hb dX1_swap_11 rfl (lv_at hl 0 rfl) ?_
  refine g_RVi (As := []) (rest := [.int (nI k)]) ⟨hx, hb, hml, hown, hts⟩ (mt_X0_size l dC dI cA s.heap.size r1 a1 (nI L.length) f) (cwV 0 hts gX1_swap_X0_size rfl rfl rfl hdX0_size ⟨Nat.le_of_ble_eq_true rfl, Nat.le_of_ble_eq_true rfl⟩) hP hK hD [1, 2] (by decide) rfl (va_recv hK hP (ci := 0) (q0 := 1) rfl rfl) rfl hl.1 rfl (Nat.le_of_ble_eq_true rfl) dX1_swap_12 (Nat.zero_le _) (Nat.zero_le _) ?_
  refine lv_iconst (v := 1) hx hb dX1_swap_15 (by decide) ?_
  refine lv_isub hx hb dX1_swap_16 ?_
  rw [plI_sub L.length]
  refine g_RSv (As := [.int (nI k), .int (plI L.length)]) (rest := []) ⟨hx, hb, hml, hown, hts⟩ (mt_X1_requirePlace l dC dI cA s.heap.size (nI k) (plI L.length) (nI_pos (by omega)) (lt_plI hk (by omega))) (va_cwS 2 hts gX1_swap_X1_requirePlace rfl rfl rfl hdX1_requirePlace ⟨Nat.le_of_ble_eq_true rfl, Nat.le_of_ble_eq_true rfl⟩) hP hK hD [] (by decide) rfl rfl hl.1 rfl (Nat.le_of_ble_eq_true rfl) dX1_swap_17 (Nat.zero_le _) (Nat.zero_le _) ?_
  refine lv_aload_n hx hb dX1_swap_20 rfl (lv_at hl 0 rfl) ?_
  refine lv_iload_n hx hb dX1_swap_21 rfl (lv_at hl 3 rfl) ?_
  refine g_RVi (As := [.int (nI k)]) (rest := []) ⟨hx, hb, hml, hown, hts⟩ (mt_X0_at l dC dI cA s.heap.size r1 a1 L f k hR (by first | omega | (simp only [List.length_append, List.length_cons, List.length_nil, List.length_set, turnL_len]; omega))) (cwV 1 hts gX1_swap_X0_at rfl rfl rfl hdX0_at ⟨Nat.le_of_ble_eq_true rfl, Nat.le_of_ble_eq_true rfl⟩) hP hK hD [1, 2] (by decide) rfl (va_recv hK hP (ci := 0) (q0 := 1) rfl rfl) rfl hl.1 rfl (Nat.le_of_ble_eq_true rfl) dX1_swap_22 (Nat.zero_le _) (Nat.zero_le _) ?_
  refine lv_istore (lv' := [(4, .int (atL L k)), (3, .ref r1), (0, .ref x0), (1, .int (nI 1)), (2, .int (nI k))]) hx hb dX1_swap_25 hl (by decide) rfl (fun ls hl => ?_)
  refine lv_aload_n hx hb dX1_swap_27 rfl (lv_at hl 1 rfl) ?_
  refine lv_iload_n hx hb dX1_swap_28 rfl (lv_at hl 4 rfl) ?_
  refine lv_iconst (v := 1) hx hb dX1_swap_29 (by decide) ?_
  refine lv_iadd hx hb dX1_swap_30 ?_
  rw [show (nI k) + 1 = nI (k + 1) from nI_add k 1]
  refine g_RVi (As := [.int (nI (k + 1))]) (rest := []) ⟨hx, hb, hml, hown, hts⟩ (mt_X0_at l dC dI cA s.heap.size r1 a1 L f (k + 1) hR (by first | omega | (simp only [List.length_append, List.length_cons, List.length_nil, List.length_set, turnL_len]; omega))) (cwV 1 hts gX1_swap_X0_at rfl rfl rfl hdX0_at ⟨Nat.le_of_ble_eq_true rfl, Nat.le_of_ble_eq_true rfl⟩) hP hK hD [1, 2] (by decide) rfl (va_recv hK hP (ci := 0) (q0 := 1) rfl rfl) rfl hl.1 rfl (Nat.le_of_ble_eq_true rfl) dX1_swap_31 (Nat.zero_le _) (Nat.zero_le _) ?_
  refine lv_istore (lv' := [(5, .int (atL L (k + 1))), (4, .int (atL L k)), (3, .ref r1), (0, .ref x0), (1, .int (nI 1)), (2, .int (nI k))]) hx hb dX1_swap_34 hl (by decide) rfl (fun ls hl => ?_)
  refine lv_iload hx hb dX1_swap_36 (lv_at hl 1 rfl) ?_
  refine lv_iload hx hb dX1_swap_38 (lv_at hl 0 rfl) ?_
  refine g_RSi (As := [.int (atL L k), .int (atL L (k + 1))]) (rest := []) ⟨hx, hb, hml, hown, hts⟩ (mt_X1_heightsApart l dC dI cA s.heap.size (atL L k) (atL L (k + 1))) (va_cwS 2 hts gX1_swap_X1_heightsApart rfl rfl rfl hdX1_heightsApart ⟨Nat.le_of_ble_eq_true rfl, Nat.le_of_ble_eq_true rfl⟩) hP hK hD [] (by decide) rfl rfl hl.1 rfl (Nat.le_of_ble_eq_true rfl) dX1_swap_40 (Nat.zero_le _) (Nat.zero_le _) ?_
  refine lv_iconst (v := 2) hx hb dX1_swap_43 (by decide) ?_
  refine lv_icmp_ge (tgt := 57) hx hb dX1_swap_44 (by decide) (fun c44 => ?_) (fun c44 => ?_)
  · exact absurd hap (Int32.not_lt.mpr c44)
  · exact g_throw (text := "the heights differ by less than 2") hx hb htr hown (by decide) (hts (.classLink RX1 61 "java/lang/IllegalStateException") (List.mem_of_getElem? (i := 1) rfl)) (hts (.initialized "java/lang/IllegalStateException") (List.mem_of_getElem? (i := 2) rfl)) (fun w h => hts w (gx_X1_swap_gIS w h)) g_badIS g_otIS hZ (by decide +kernel) hS (hl.1.trans hml.symm) dX1_swap_47 dX1_swap_50 dX1_swap_51 dX1_swap_53 dX1_swap_56 hno (Nat.le_of_ble_eq_true rfl) (Nat.le_of_ble_eq_true rfl) (Nat.le_of_ble_eq_true rfl) (Nat.le_of_ble_eq_true rfl) hlocks (fun t _ h1 h2 => gX_here h1 h2) (fun q hq => absurd hq List.not_mem_nil) (Nat.le_refl _) (Nat.le_refl _)

abbrev th_X1_about_1b_1_rm : Room := { frames := 7, cells := 1, slots := 6, locals := 111 }
set_option maxHeartbeats 4000000 in
set_option maxRecDepth 100000 in
/-- about_1b_1 -/
theorem th_X1_about_1b_1 (l : Launch) (htr : l.stackTraces = false) (dC : Nat → ClassId) (dI : Nat → Nat → Nat) (cA : ClassId) (sz : Nat) (x0 : Nat) (r0 : Nat) (r1 : Nat) (r2 : Nat) (r3 : Nat) (rn : Nat) (a1 : Nat) (L : List Int32) (f : Nat → Int32) (x : Int32) (hR : RI L f) (hbad : x < 0 ∨ nI L.length - 2 ≤ x) : vx_Met l yX1_about wsX1_about th_X1_about_1b_1_rm (va_Pc [.ref x0, .int (nI 1), .int x] (gBT (dC, dI) [(cA, .int)] [(x0, .inr (1, [.ref r0, .ref r1, .ref r2, .ref r3, .int (nI rn)])), (r1, .inr (0, [.ref a1, .int (nI L.length)])), (a1, .inl (cA, (100, .inl f)))] sz)) gNo (gX gIO) 1 6 (fun _ => False) := by
  refine g_ofT (cc := cX1_about) (maxL := 6) (ret := (some .int)) (XC := fun _ => gX gIO) (by decide) rfl (Nat.le_of_ble_eq_true rfl) (fun _ => False) (fun p e s m below meth c ls hx hb hml hts hown hlocks hno hP hK hl hsz hA hD hS hZ => ?_)
  have hl : lv_has ls 6 [(0, .ref x0), (1, .int (nI 1)), (2, .int x)] := hl
  have hL := hR.1
  refine lv_iload_n hx hb dX1_about_0 rfl (lv_at hl 1 rfl) ?_
  refine g_RSv (As := [.int (nI 1)]) (rest := []) ⟨hx, hb, hml, hown, hts⟩ (mt_X1_requireWord l dC dI cA s.heap.size 1 (by first | omega | (simp only [List.length_append, List.length_cons, List.length_nil, List.length_set, turnL_len]; omega))) (va_cwS 1 hts gX1_about_X1_requireWord rfl rfl rfl hdX1_requireWord ⟨Nat.le_of_ble_eq_true rfl, Nat.le_of_ble_eq_true rfl⟩) hP hK hD [] (by decide) rfl rfl hl.1 rfl (Nat.le_of_ble_eq_true rfl) dX1_about_1 (Nat.zero_le _) (Nat.zero_le _) ?_
  refine lv_aload_n hx hb dX1_about_4 rfl (lv_at hl 0 rfl) ?_
  refine lv_iload_n hx hb dX1_about_5 rfl (lv_at hl 1 rfl) ?_
  refine g_RVr (As := [.int (nI 1)]) (rest := []) ⟨hx, hb, hml, hown, hts⟩ (mt_X1_rowOf1 l dC dI cA s.heap.size x0 r0 r1 r2 r3 (nI rn)) (cwV 1 hts gX1_about_X1_rowOf rfl rfl rfl hdX1_rowOf ⟨Nat.le_of_ble_eq_true rfl, Nat.le_of_ble_eq_true rfl⟩) hP hK hD [0] (by decide) rfl (va_recv hK hP (ci := 1) (q0 := 0) rfl rfl) rfl hl.1 rfl (Nat.le_of_ble_eq_true rfl) dX1_about_6 (Nat.zero_le _) (Nat.zero_le _) ?_
  refine lv_astore_n (lv' := [(3, .ref r1), (0, .ref x0), (1, .int (nI 1)), (2, .int x)]) hx hb dX1_about_9 rfl hl (by decide) rfl (fun ls hl => ?_)
  refine lv_iload_n hx hb dX1_about_10 rfl (lv_at hl 3 rfl) ?_
  refine lv_aload_n hx hb dX1_about_11 rfl (lv_at hl 0 rfl) ?_
  refine g_RVi (As := []) (rest := [.int x]) ⟨hx, hb, hml, hown, hts⟩ (mt_X0_size l dC dI cA s.heap.size r1 a1 (nI L.length) f) (cwV 0 hts gX1_about_X0_size rfl rfl rfl hdX0_size ⟨Nat.le_of_ble_eq_true rfl, Nat.le_of_ble_eq_true rfl⟩) hP hK hD [1, 2] (by decide) rfl (va_recv hK hP (ci := 0) (q0 := 1) rfl rfl) rfl hl.1 rfl (Nat.le_of_ble_eq_true rfl) dX1_about_12 (Nat.zero_le _) (Nat.zero_le _) ?_
  refine lv_iconst (v := 2) hx hb dX1_about_15 (by decide) ?_
  refine lv_isub hx hb dX1_about_16 ?_
  exact g_TS (As := [.int x, .int ((nI L.length) - 2)]) (rest := []) ⟨hx, hb, hml, hown, hts⟩ (th_X1_requirePlace l htr dC dI cA s.heap.size x ((nI L.length) - 2) (by first | omega | (simp only [List.length_append, List.length_cons, List.length_nil, List.length_set, turnL_len]; omega))) (va_cwS 2 hts gX1_about_X1_requirePlace rfl rfl rfl hdX1_requirePlace ⟨Nat.le_of_ble_eq_true rfl, Nat.le_of_ble_eq_true rfl⟩) hP hK hD hA hZ [] (by decide) rfl rfl hl.1 rfl (Nat.le_of_ble_eq_true rfl) dX1_about_17 (Nat.le_of_ble_eq_true rfl) (Nat.le_of_ble_eq_true rfl) hlocks hno

abbrev th_X1_about_2_1_rm : Room := { frames := 6, cells := 1, slots := 6, locals := 90 }
set_option maxHeartbeats 4000000 in
set_option maxRecDepth 100000 in
/-- about_2_1 -/
theorem th_X1_about_2_1 (l : Launch) (htr : l.stackTraces = false) (dC : Nat → ClassId) (dI : Nat → Nat → Nat) (cA : ClassId) (sz : Nat) (x0 : Nat) (r0 : Nat) (r1 : Nat) (r2 : Nat) (r3 : Nat) (rn : Nat) (a1 : Nat) (L : List Int32) (f : Nat → Int32) (k : Nat) (hR : RI L f) (hk : k + 2 < L.length) (hno9 : ¬ (atL L (k + 2) = atL L k ∧ sgI (atL L (k + 1)) = sgI (atL L k) ∧ abI (abI (atL L (k + 1)) - abI (atL L k)) = 1)) : vx_Met l yX1_about wsX1_about th_X1_about_2_1_rm (va_Pc [.ref x0, .int (nI 1), .int (nI k)] (gBT (dC, dI) [(cA, .int)] [(x0, .inr (1, [.ref r0, .ref r1, .ref r2, .ref r3, .int (nI rn)])), (r1, .inr (0, [.ref a1, .int (nI L.length)])), (a1, .inl (cA, (100, .inl f)))] sz)) gNo (gX gIS) 1 6 (fun _ => False) := by
  refine g_ofT (cc := cX1_about) (maxL := 6) (ret := (some .int)) (XC := fun _ => gX gIS) (by decide) rfl (Nat.le_of_ble_eq_true rfl) (fun _ => False) (fun p e s m below meth c ls hx hb hml hts hown hlocks hno hP hK hl hsz hA hD hS hZ => ?_)
  have hl : lv_has ls 6 [(0, .ref x0), (1, .int (nI 1)), (2, .int (nI k))] := hl
  have hL := hR.1
  refine lv_iload_n hx hb dX1_about_0 rfl (lv_at hl 1 rfl) ?_
  refine g_RSv (As := [.int (nI 1)]) (rest := []) ⟨hx, hb, hml, hown, hts⟩ (mt_X1_requireWord l dC dI cA s.heap.size 1 (by first | omega | (simp only [List.length_append, List.length_cons, List.length_nil, List.length_set, turnL_len]; omega))) (va_cwS 1 hts gX1_about_X1_requireWord rfl rfl rfl hdX1_requireWord ⟨Nat.le_of_ble_eq_true rfl, Nat.le_of_ble_eq_true rfl⟩) hP hK hD [] (by decide) rfl rfl hl.1 rfl (Nat.le_of_ble_eq_true rfl) dX1_about_1 (Nat.zero_le _) (Nat.zero_le _) ?_
  refine lv_aload_n hx hb dX1_about_4 rfl (lv_at hl 0 rfl) ?_
  refine lv_iload_n hx hb dX1_about_5 rfl (lv_at hl 1 rfl) ?_
  refine g_RVr (As := [.int (nI 1)]) (rest := []) ⟨hx, hb, hml, hown, hts⟩ (mt_X1_rowOf1 l dC dI cA s.heap.size x0 r0 r1 r2 r3 (nI rn)) (cwV 1 hts gX1_about_X1_rowOf rfl rfl rfl hdX1_rowOf ⟨Nat.le_of_ble_eq_true rfl, Nat.le_of_ble_eq_true rfl⟩) hP hK hD [0] (by decide) rfl (va_recv hK hP (ci := 1) (q0 := 0) rfl rfl) rfl hl.1 rfl (Nat.le_of_ble_eq_true rfl) dX1_about_6 (Nat.zero_le _) (Nat.zero_le _) ?_
  refine lv_astore_n (lv' := [(3, .ref r1), (0, .ref x0), (1, .int (nI 1)), (2, .int (nI k))]) hx hb dX1_about_9 rfl hl (by decide) rfl (fun ls hl => ?_)
  refine lv_iload_n hx hb dX1_about_10 rfl (lv_at hl 3 rfl) ?_
  refine lv_aload_n hx hb dX1_about_11 rfl (lv_at hl 0 rfl) ?_
  refine g_RVi (As := []) (rest := [.int (nI k)]) ⟨hx, hb, hml, hown, hts⟩ (mt_X0_size l dC dI cA s.heap.size r1 a1 (nI L.length) f) (cwV 0 hts gX1_about_X0_size rfl rfl rfl hdX0_size ⟨Nat.le_of_ble_eq_true rfl, Nat.le_of_ble_eq_true rfl⟩) hP hK hD [1, 2] (by decide) rfl (va_recv hK hP (ci := 0) (q0 := 1) rfl rfl) rfl hl.1 rfl (Nat.le_of_ble_eq_true rfl) dX1_about_12 (Nat.zero_le _) (Nat.zero_le _) ?_
  refine lv_iconst (v := 2) hx hb dX1_about_15 (by decide) ?_
  refine lv_isub hx hb dX1_about_16 ?_
  rw [sub2_nI (show 2 ≤ L.length by omega)]
  refine g_RSv (As := [.int (nI k), .int (nI (L.length - 2))]) (rest := []) ⟨hx, hb, hml, hown, hts⟩ (mt_X1_requirePlace l dC dI cA s.heap.size (nI k) (nI (L.length - 2)) (nI_pos (by omega)) (nI_lt (by omega) (by omega))) (va_cwS 2 hts gX1_about_X1_requirePlace rfl rfl rfl hdX1_requirePlace ⟨Nat.le_of_ble_eq_true rfl, Nat.le_of_ble_eq_true rfl⟩) hP hK hD [] (by decide) rfl rfl hl.1 rfl (Nat.le_of_ble_eq_true rfl) dX1_about_17 (Nat.zero_le _) (Nat.zero_le _) ?_
  refine lv_aload_n hx hb dX1_about_20 rfl (lv_at hl 0 rfl) ?_
  refine lv_iload_n hx hb dX1_about_21 rfl (lv_at hl 3 rfl) ?_
  refine g_RVi (As := [.int (nI k)]) (rest := []) ⟨hx, hb, hml, hown, hts⟩ (mt_X0_at l dC dI cA s.heap.size r1 a1 L f k hR (by first | omega | (simp only [List.length_append, List.length_cons, List.length_nil, List.length_set, turnL_len]; omega))) (cwV 1 hts gX1_about_X0_at rfl rfl rfl hdX0_at ⟨Nat.le_of_ble_eq_true rfl, Nat.le_of_ble_eq_true rfl⟩) hP hK hD [1, 2] (by decide) rfl (va_recv hK hP (ci := 0) (q0 := 1) rfl rfl) rfl hl.1 rfl (Nat.le_of_ble_eq_true rfl) dX1_about_22 (Nat.zero_le _) (Nat.zero_le _) ?_
  refine lv_istore (lv' := [(4, .int (atL L k)), (3, .ref r1), (0, .ref x0), (1, .int (nI 1)), (2, .int (nI k))]) hx hb dX1_about_25 hl (by decide) rfl (fun ls hl => ?_)
  refine lv_aload_n hx hb dX1_about_27 rfl (lv_at hl 1 rfl) ?_
  refine lv_iload_n hx hb dX1_about_28 rfl (lv_at hl 4 rfl) ?_
  refine lv_iconst (v := 1) hx hb dX1_about_29 (by decide) ?_
  refine lv_iadd hx hb dX1_about_30 ?_
  rw [show (nI k) + 1 = nI (k + 1) from nI_add k 1]
  refine g_RVi (As := [.int (nI (k + 1))]) (rest := []) ⟨hx, hb, hml, hown, hts⟩ (mt_X0_at l dC dI cA s.heap.size r1 a1 L f (k + 1) hR (by first | omega | (simp only [List.length_append, List.length_cons, List.length_nil, List.length_set, turnL_len]; omega))) (cwV 1 hts gX1_about_X0_at rfl rfl rfl hdX0_at ⟨Nat.le_of_ble_eq_true rfl, Nat.le_of_ble_eq_true rfl⟩) hP hK hD [1, 2] (by decide) rfl (va_recv hK hP (ci := 0) (q0 := 1) rfl rfl) rfl hl.1 rfl (Nat.le_of_ble_eq_true rfl) dX1_about_31 (Nat.zero_le _) (Nat.zero_le _) ?_
  refine lv_istore (lv' := [(5, .int (atL L (k + 1))), (4, .int (atL L k)), (3, .ref r1), (0, .ref x0), (1, .int (nI 1)), (2, .int (nI k))]) hx hb dX1_about_34 hl (by decide) rfl (fun ls hl => ?_)
  refine lv_aload_n hx hb dX1_about_36 rfl (lv_at hl 2 rfl) ?_
  refine lv_iload_n hx hb dX1_about_37 rfl (lv_at hl 5 rfl) ?_
  refine lv_iconst (v := 2) hx hb dX1_about_38 (by decide) ?_
  refine lv_iadd hx hb dX1_about_39 ?_
  rw [show (nI k) + 2 = nI (k + 2) from nI_add k 2]
  refine g_RVi (As := [.int (nI (k + 2))]) (rest := []) ⟨hx, hb, hml, hown, hts⟩ (mt_X0_at l dC dI cA s.heap.size r1 a1 L f (k + 2) hR (by first | omega | (simp only [List.length_append, List.length_cons, List.length_nil, List.length_set, turnL_len]; omega))) (cwV 1 hts gX1_about_X0_at rfl rfl rfl hdX0_at ⟨Nat.le_of_ble_eq_true rfl, Nat.le_of_ble_eq_true rfl⟩) hP hK hD [1, 2] (by decide) rfl (va_recv hK hP (ci := 0) (q0 := 1) rfl rfl) rfl hl.1 rfl (Nat.le_of_ble_eq_true rfl) dX1_about_40 (Nat.zero_le _) (Nat.zero_le _) ?_
  refine lv_iload hx hb dX1_about_43 (lv_at hl 1 rfl) ?_
  refine lv_icmp_ne (tgt := 72) hx hb dX1_about_45 (by decide) (fun c45 => ?_) (fun c45 => ?_)
  · exact g_throw (text := "the three letters can't be turned about") hx hb htr hown (by decide) (hts (.classLink RX1 61 "java/lang/IllegalStateException") (List.mem_of_getElem? (i := 1) rfl)) (hts (.initialized "java/lang/IllegalStateException") (List.mem_of_getElem? (i := 2) rfl)) (fun w h => hts w (gx_X1_about_gIS w h)) g_badIS g_otIS hZ (by decide +kernel) hS (hl.1.trans hml.symm) dX1_about_72 dX1_about_75 dX1_about_76 dX1_about_78 dX1_about_81 hno (Nat.le_of_ble_eq_true rfl) (Nat.le_of_ble_eq_true rfl) (Nat.le_of_ble_eq_true rfl) (Nat.le_of_ble_eq_true rfl) hlocks (fun t _ h1 h2 => gX_here h1 h2) (fun q hq => absurd hq List.not_mem_nil) (Nat.le_refl _) (Nat.le_refl _)
  · refine lv_iload hx hb dX1_about_48 (lv_at hl 0 rfl) ?_
    refine g_RSi (As := [.int (atL L (k + 1))]) (rest := []) ⟨hx, hb, hml, hown, hts⟩ (mt_X1_signOf l dC dI cA s.heap.size (atL L (k + 1))) (va_cwS 1 hts gX1_about_X1_signOf rfl rfl rfl hdX1_signOf ⟨Nat.le_of_ble_eq_true rfl, Nat.le_of_ble_eq_true rfl⟩) hP hK hD [] (by decide) rfl rfl hl.1 rfl (Nat.le_of_ble_eq_true rfl) dX1_about_50 (Nat.zero_le _) (Nat.zero_le _) ?_
    refine lv_iload hx hb dX1_about_53 (lv_at hl 1 rfl) ?_
    refine g_RSi (As := [.int (atL L k)]) (rest := [.int (sgI (atL L (k + 1)))]) ⟨hx, hb, hml, hown, hts⟩ (mt_X1_signOf l dC dI cA s.heap.size (atL L k)) (va_cwS 1 hts gX1_about_X1_signOf rfl rfl rfl hdX1_signOf ⟨Nat.le_of_ble_eq_true rfl, Nat.le_of_ble_eq_true rfl⟩) hP hK hD [] (by decide) rfl rfl hl.1 rfl (Nat.le_of_ble_eq_true rfl) dX1_about_55 (Nat.zero_le _) (Nat.zero_le _) ?_
    refine lv_icmp_ne (tgt := 72) hx hb dX1_about_58 (by decide) (fun c58 => ?_) (fun c58 => ?_)
    · exact g_throw (text := "the three letters can't be turned about") hx hb htr hown (by decide) (hts (.classLink RX1 61 "java/lang/IllegalStateException") (List.mem_of_getElem? (i := 1) rfl)) (hts (.initialized "java/lang/IllegalStateException") (List.mem_of_getElem? (i := 2) rfl)) (fun w h => hts w (gx_X1_about_gIS w h)) g_badIS g_otIS hZ (by decide +kernel) hS (hl.1.trans hml.symm) dX1_about_72 dX1_about_75 dX1_about_76 dX1_about_78 dX1_about_81 hno (Nat.le_of_ble_eq_true rfl) (Nat.le_of_ble_eq_true rfl) (Nat.le_of_ble_eq_true rfl) (Nat.le_of_ble_eq_true rfl) hlocks (fun t _ h1 h2 => gX_here h1 h2) (fun q hq => absurd hq List.not_mem_nil) (Nat.le_refl _) (Nat.le_refl _)
    · refine lv_iload hx hb dX1_about_61 (lv_at hl 0 rfl) ?_
      refine lv_iload hx hb dX1_about_63 (lv_at hl 1 rfl) ?_
      refine g_RSi (As := [.int (atL L (k + 1)), .int (atL L k)]) (rest := []) ⟨hx, hb, hml, hown, hts⟩ (mt_X1_heightsApart l dC dI cA s.heap.size (atL L (k + 1)) (atL L k)) (va_cwS 2 hts gX1_about_X1_heightsApart rfl rfl rfl hdX1_heightsApart ⟨Nat.le_of_ble_eq_true rfl, Nat.le_of_ble_eq_true rfl⟩) hP hK hD [] (by decide) rfl rfl hl.1 rfl (Nat.le_of_ble_eq_true rfl) dX1_about_65 (Nat.zero_le _) (Nat.zero_le _) ?_
      refine lv_iconst (v := 1) hx hb dX1_about_68 (by decide) ?_
      refine lv_icmp_eq (tgt := 82) hx hb dX1_about_69 (by decide) (fun c69 => ?_) (fun c69 => ?_)
      · exact absurd ⟨c45, c58, c69⟩ hno9
      · exact g_throw (text := "the three letters can't be turned about") hx hb htr hown (by decide) (hts (.classLink RX1 61 "java/lang/IllegalStateException") (List.mem_of_getElem? (i := 1) rfl)) (hts (.initialized "java/lang/IllegalStateException") (List.mem_of_getElem? (i := 2) rfl)) (fun w h => hts w (gx_X1_about_gIS w h)) g_badIS g_otIS hZ (by decide +kernel) hS (hl.1.trans hml.symm) dX1_about_72 dX1_about_75 dX1_about_76 dX1_about_78 dX1_about_81 hno (Nat.le_of_ble_eq_true rfl) (Nat.le_of_ble_eq_true rfl) (Nat.le_of_ble_eq_true rfl) (Nat.le_of_ble_eq_true rfl) hlocks (fun t _ h1 h2 => gX_here h1 h2) (fun q hq => absurd hq List.not_mem_nil) (Nat.le_refl _) (Nat.le_refl _)

abbrev th_X1_insert_1b_1_rm : Room := { frames := 7, cells := 1, slots := 6, locals := 111 }
set_option maxHeartbeats 4000000 in
set_option maxRecDepth 100000 in
/-- insert_1b_1 -/
theorem th_X1_insert_1b_1 (l : Launch) (htr : l.stackTraces = false) (dC : Nat → ClassId) (dI : Nat → Nat → Nat) (cA : ClassId) (sz : Nat) (x0 : Nat) (r0 : Nat) (r1 : Nat) (r2 : Nat) (r3 : Nat) (rn : Nat) (a1 : Nat) (L : List Int32) (f : Nat → Int32) (x : Int32) (y : Int32) (hR : RI L f) (hbad : x < 0 ∨ nI (L.length + 1) ≤ x) : vx_Met l yX1_insert wsX1_insert th_X1_insert_1b_1_rm (va_Pc [.ref x0, .int (nI 1), .int x, .int y] (gBT (dC, dI) [(cA, .int)] [(x0, .inr (1, [.ref r0, .ref r1, .ref r2, .ref r3, .int (nI rn)])), (r1, .inr (0, [.ref a1, .int (nI L.length)])), (a1, .inl (cA, (100, .inl f)))] sz)) gNo (gX gIO) 1 6 (fun _ => False) := by
  refine g_ofT (cc := cX1_insert) (maxL := 5) (ret := (some .int)) (XC := fun _ => gX gIO) (by decide) rfl (Nat.le_of_ble_eq_true rfl) (fun _ => False) (fun p e s m below meth c ls hx hb hml hts hown hlocks hno hP hK hl hsz hA hD hS hZ => ?_)
  have hl : lv_has ls 5 [(0, .ref x0), (1, .int (nI 1)), (2, .int x), (3, .int y)] := hl
  have hL := hR.1
  refine lv_iload_n hx hb dX1_insert_0 rfl (lv_at hl 1 rfl) ?_
  refine g_RSv (As := [.int (nI 1)]) (rest := []) ⟨hx, hb, hml, hown, hts⟩ (mt_X1_requireWord l dC dI cA s.heap.size 1 (by first | omega | (simp only [List.length_append, List.length_cons, List.length_nil, List.length_set, turnL_len]; omega))) (va_cwS 1 hts gX1_insert_X1_requireWord rfl rfl rfl hdX1_requireWord ⟨Nat.le_of_ble_eq_true rfl, Nat.le_of_ble_eq_true rfl⟩) hP hK hD [] (by decide) rfl rfl hl.1 rfl (Nat.le_of_ble_eq_true rfl) dX1_insert_1 (Nat.zero_le _) (Nat.zero_le _) ?_
  refine lv_aload_n hx hb dX1_insert_4 rfl (lv_at hl 0 rfl) ?_
  refine lv_iload_n hx hb dX1_insert_5 rfl (lv_at hl 1 rfl) ?_
  refine g_RVr (As := [.int (nI 1)]) (rest := []) ⟨hx, hb, hml, hown, hts⟩ (mt_X1_rowOf1 l dC dI cA s.heap.size x0 r0 r1 r2 r3 (nI rn)) (cwV 1 hts gX1_insert_X1_rowOf rfl rfl rfl hdX1_rowOf ⟨Nat.le_of_ble_eq_true rfl, Nat.le_of_ble_eq_true rfl⟩) hP hK hD [0] (by decide) rfl (va_recv hK hP (ci := 1) (q0 := 0) rfl rfl) rfl hl.1 rfl (Nat.le_of_ble_eq_true rfl) dX1_insert_6 (Nat.zero_le _) (Nat.zero_le _) ?_
  refine lv_astore (lv' := [(4, .ref r1), (0, .ref x0), (1, .int (nI 1)), (2, .int x), (3, .int y)]) hx hb dX1_insert_9 hl (by decide) rfl (fun ls hl => ?_)
  refine lv_iload_n hx hb dX1_insert_11 rfl (lv_at hl 3 rfl) ?_
  refine lv_aload hx hb dX1_insert_12 (lv_at hl 0 rfl) ?_
  refine g_RVi (As := []) (rest := [.int x]) ⟨hx, hb, hml, hown, hts⟩ (mt_X0_size l dC dI cA s.heap.size r1 a1 (nI L.length) f) (cwV 0 hts gX1_insert_X0_size rfl rfl rfl hdX0_size ⟨Nat.le_of_ble_eq_true rfl, Nat.le_of_ble_eq_true rfl⟩) hP hK hD [1, 2] (by decide) rfl (va_recv hK hP (ci := 0) (q0 := 1) rfl rfl) rfl hl.1 rfl (Nat.le_of_ble_eq_true rfl) dX1_insert_14 (Nat.zero_le _) (Nat.zero_le _) ?_
  refine lv_iconst (v := 1) hx hb dX1_insert_17 (by decide) ?_
  refine lv_iadd hx hb dX1_insert_18 ?_
  rw [show (nI L.length) + 1 = nI (L.length + 1) from nI_add L.length 1]
  exact g_TS (As := [.int x, .int (nI (L.length + 1))]) (rest := []) ⟨hx, hb, hml, hown, hts⟩ (th_X1_requirePlace l htr dC dI cA s.heap.size x (nI (L.length + 1)) (by first | omega | (simp only [List.length_append, List.length_cons, List.length_nil, List.length_set, turnL_len]; omega))) (va_cwS 2 hts gX1_insert_X1_requirePlace rfl rfl rfl hdX1_requirePlace ⟨Nat.le_of_ble_eq_true rfl, Nat.le_of_ble_eq_true rfl⟩) hP hK hD hA hZ [] (by decide) rfl rfl hl.1 rfl (Nat.le_of_ble_eq_true rfl) dX1_insert_19 (Nat.le_of_ble_eq_true rfl) (Nat.le_of_ble_eq_true rfl) hlocks hno

abbrev th_X1_insert_2_1_rm : Room := { frames := 7, cells := 1, slots := 6, locals := 111 }
set_option maxHeartbeats 4000000 in
set_option maxRecDepth 100000 in
/-- insert_2_1 -/
theorem th_X1_insert_2_1 (l : Launch) (htr : l.stackTraces = false) (dC : Nat → ClassId) (dI : Nat → Nat → Nat) (cA : ClassId) (sz : Nat) (x0 : Nat) (r0 : Nat) (r1 : Nat) (r2 : Nat) (r3 : Nat) (rn : Nat) (a1 : Nat) (L : List Int32) (f : Nat → Int32) (k : Nat) (x : Int32) (hR : RI L f) (hk : k ≤ L.length) (hbad : x = 0 ∨ x ≤ -nI rn ∨ nI rn ≤ x) : vx_Met l yX1_insert wsX1_insert th_X1_insert_2_1_rm (va_Pc [.ref x0, .int (nI 1), .int (nI k), .int x] (gBT (dC, dI) [(cA, .int)] [(x0, .inr (1, [.ref r0, .ref r1, .ref r2, .ref r3, .int (nI rn)])), (r1, .inr (0, [.ref a1, .int (nI L.length)])), (a1, .inl (cA, (100, .inl f)))] sz)) gNo (gX gIA) 1 6 (fun _ => False) := by
  refine g_ofT (cc := cX1_insert) (maxL := 5) (ret := (some .int)) (XC := fun _ => gX gIA) (by decide) rfl (Nat.le_of_ble_eq_true rfl) (fun _ => False) (fun p e s m below meth c ls hx hb hml hts hown hlocks hno hP hK hl hsz hA hD hS hZ => ?_)
  have hl : lv_has ls 5 [(0, .ref x0), (1, .int (nI 1)), (2, .int (nI k)), (3, .int x)] := hl
  have hL := hR.1
  refine lv_iload_n hx hb dX1_insert_0 rfl (lv_at hl 1 rfl) ?_
  refine g_RSv (As := [.int (nI 1)]) (rest := []) ⟨hx, hb, hml, hown, hts⟩ (mt_X1_requireWord l dC dI cA s.heap.size 1 (by first | omega | (simp only [List.length_append, List.length_cons, List.length_nil, List.length_set, turnL_len]; omega))) (va_cwS 1 hts gX1_insert_X1_requireWord rfl rfl rfl hdX1_requireWord ⟨Nat.le_of_ble_eq_true rfl, Nat.le_of_ble_eq_true rfl⟩) hP hK hD [] (by decide) rfl rfl hl.1 rfl (Nat.le_of_ble_eq_true rfl) dX1_insert_1 (Nat.zero_le _) (Nat.zero_le _) ?_
  refine lv_aload_n hx hb dX1_insert_4 rfl (lv_at hl 0 rfl) ?_
  refine lv_iload_n hx hb dX1_insert_5 rfl (lv_at hl 1 rfl) ?_
  refine g_RVr (As := [.int (nI 1)]) (rest := []) ⟨hx, hb, hml, hown, hts⟩ (mt_X1_rowOf1 l dC dI cA s.heap.size x0 r0 r1 r2 r3 (nI rn)) (cwV 1 hts gX1_insert_X1_rowOf rfl rfl rfl hdX1_rowOf ⟨Nat.le_of_ble_eq_true rfl, Nat.le_of_ble_eq_true rfl⟩) hP hK hD [0] (by decide) rfl (va_recv hK hP (ci := 1) (q0 := 0) rfl rfl) rfl hl.1 rfl (Nat.le_of_ble_eq_true rfl) dX1_insert_6 (Nat.zero_le _) (Nat.zero_le _) ?_
  refine lv_astore (lv' := [(4, .ref r1), (0, .ref x0), (1, .int (nI 1)), (2, .int (nI k)), (3, .int x)]) hx hb dX1_insert_9 hl (by decide) rfl (fun ls hl => ?_)
  refine lv_iload_n hx hb dX1_insert_11 rfl (lv_at hl 3 rfl) ?_
  refine lv_aload hx hb dX1_insert_12 (lv_at hl 0 rfl) ?_
  refine g_RVi (As := []) (rest := [.int (nI k)]) ⟨hx, hb, hml, hown, hts⟩ (mt_X0_size l dC dI cA s.heap.size r1 a1 (nI L.length) f) (cwV 0 hts gX1_insert_X0_size rfl rfl rfl hdX0_size ⟨Nat.le_of_ble_eq_true rfl, Nat.le_of_ble_eq_true rfl⟩) hP hK hD [1, 2] (by decide) rfl (va_recv hK hP (ci := 0) (q0 := 1) rfl rfl) rfl hl.1 rfl (Nat.le_of_ble_eq_true rfl) dX1_insert_14 (Nat.zero_le _) (Nat.zero_le _) ?_
  refine lv_iconst (v := 1) hx hb dX1_insert_17 (by decide) ?_
  refine lv_iadd hx hb dX1_insert_18 ?_
  rw [show (nI L.length) + 1 = nI (L.length + 1) from nI_add L.length 1]
  refine g_RSv (As := [.int (nI k), .int (nI (L.length + 1))]) (rest := []) ⟨hx, hb, hml, hown, hts⟩ (mt_X1_requirePlace l dC dI cA s.heap.size (nI k) (nI (L.length + 1)) (nI_pos (by omega)) (nI_lt (by omega) (by omega))) (va_cwS 2 hts gX1_insert_X1_requirePlace rfl rfl rfl hdX1_requirePlace ⟨Nat.le_of_ble_eq_true rfl, Nat.le_of_ble_eq_true rfl⟩) hP hK hD [] (by decide) rfl rfl hl.1 rfl (Nat.le_of_ble_eq_true rfl) dX1_insert_19 (Nat.zero_le _) (Nat.zero_le _) ?_
  refine lv_aload_n hx hb dX1_insert_22 rfl (lv_at hl 1 rfl) ?_
  refine lv_iload_n hx hb dX1_insert_23 rfl (lv_at hl 4 rfl) ?_
  exact g_TV (As := [.int x]) (rest := []) ⟨hx, hb, hml, hown, hts⟩ (th_X1_requireLetter l htr dC dI cA s.heap.size x0 r0 r1 r2 r3 (nI rn) x (by first | omega | (simp only [List.length_append, List.length_cons, List.length_nil, List.length_set, turnL_len]; omega))) (cwV 1 hts gX1_insert_X1_requireLetter rfl rfl rfl hdX1_requireLetter ⟨Nat.le_of_ble_eq_true rfl, Nat.le_of_ble_eq_true rfl⟩) hP hK hD hA hZ [0] (by decide) rfl (va_recv hK hP (ci := 1) (q0 := 0) rfl rfl) rfl hl.1 rfl (Nat.le_of_ble_eq_true rfl) dX1_insert_24 (Nat.le_of_ble_eq_true rfl) (Nat.le_of_ble_eq_true rfl) hlocks hno

abbrev th_X1_insert_3_1_rm : Room := { frames := 7, cells := 1, slots := 6, locals := 111 }
set_option maxHeartbeats 4000000 in
set_option maxRecDepth 100000 in
/-- insert_3_1 -/
theorem th_X1_insert_3_1 (l : Launch) (htr : l.stackTraces = false) (dC : Nat → ClassId) (dI : Nat → Nat → Nat) (cA : ClassId) (sz : Nat) (x0 : Nat) (r0 : Nat) (r1 : Nat) (r2 : Nat) (r3 : Nat) (rn : Nat) (a1 : Nat) (L : List Int32) (f : Nat → Int32) (k : Nat) (x : Int32) (hR : RI L f) (hk : k ≤ L.length) (h0 : ¬ x = 0) (h1 : ¬ x ≤ -nI rn) (h2 : x < nI rn) (hk2 : 30 < L.length + 2) : vx_Met l yX1_insert wsX1_insert th_X1_insert_3_1_rm (va_Pc [.ref x0, .int (nI 1), .int (nI k), .int x] (gBT (dC, dI) [(cA, .int)] [(x0, .inr (1, [.ref r0, .ref r1, .ref r2, .ref r3, .int (nI rn)])), (r1, .inr (0, [.ref a1, .int (nI L.length)])), (a1, .inl (cA, (100, .inl f)))] sz)) gNo (gX gIS) 1 6 (fun _ => False) := by
  refine g_ofT (cc := cX1_insert) (maxL := 5) (ret := (some .int)) (XC := fun _ => gX gIS) (by decide) rfl (Nat.le_of_ble_eq_true rfl) (fun _ => False) (fun p e s m below meth c ls hx hb hml hts hown hlocks hno hP hK hl hsz hA hD hS hZ => ?_)
  have hl : lv_has ls 5 [(0, .ref x0), (1, .int (nI 1)), (2, .int (nI k)), (3, .int x)] := hl
  have hL := hR.1
  refine lv_iload_n hx hb dX1_insert_0 rfl (lv_at hl 1 rfl) ?_
  refine g_RSv (As := [.int (nI 1)]) (rest := []) ⟨hx, hb, hml, hown, hts⟩ (mt_X1_requireWord l dC dI cA s.heap.size 1 (by first | omega | (simp only [List.length_append, List.length_cons, List.length_nil, List.length_set, turnL_len]; omega))) (va_cwS 1 hts gX1_insert_X1_requireWord rfl rfl rfl hdX1_requireWord ⟨Nat.le_of_ble_eq_true rfl, Nat.le_of_ble_eq_true rfl⟩) hP hK hD [] (by decide) rfl rfl hl.1 rfl (Nat.le_of_ble_eq_true rfl) dX1_insert_1 (Nat.zero_le _) (Nat.zero_le _) ?_
  refine lv_aload_n hx hb dX1_insert_4 rfl (lv_at hl 0 rfl) ?_
  refine lv_iload_n hx hb dX1_insert_5 rfl (lv_at hl 1 rfl) ?_
  refine g_RVr (As := [.int (nI 1)]) (rest := []) ⟨hx, hb, hml, hown, hts⟩ (mt_X1_rowOf1 l dC dI cA s.heap.size x0 r0 r1 r2 r3 (nI rn)) (cwV 1 hts gX1_insert_X1_rowOf rfl rfl rfl hdX1_rowOf ⟨Nat.le_of_ble_eq_true rfl, Nat.le_of_ble_eq_true rfl⟩) hP hK hD [0] (by decide) rfl (va_recv hK hP (ci := 1) (q0 := 0) rfl rfl) rfl hl.1 rfl (Nat.le_of_ble_eq_true rfl) dX1_insert_6 (Nat.zero_le _) (Nat.zero_le _) ?_
  refine lv_astore (lv' := [(4, .ref r1), (0, .ref x0), (1, .int (nI 1)), (2, .int (nI k)), (3, .int x)]) hx hb dX1_insert_9 hl (by decide) rfl (fun ls hl => ?_)
  refine lv_iload_n hx hb dX1_insert_11 rfl (lv_at hl 3 rfl) ?_
  refine lv_aload hx hb dX1_insert_12 (lv_at hl 0 rfl) ?_
  refine g_RVi (As := []) (rest := [.int (nI k)]) ⟨hx, hb, hml, hown, hts⟩ (mt_X0_size l dC dI cA s.heap.size r1 a1 (nI L.length) f) (cwV 0 hts gX1_insert_X0_size rfl rfl rfl hdX0_size ⟨Nat.le_of_ble_eq_true rfl, Nat.le_of_ble_eq_true rfl⟩) hP hK hD [1, 2] (by decide) rfl (va_recv hK hP (ci := 0) (q0 := 1) rfl rfl) rfl hl.1 rfl (Nat.le_of_ble_eq_true rfl) dX1_insert_14 (Nat.zero_le _) (Nat.zero_le _) ?_
  refine lv_iconst (v := 1) hx hb dX1_insert_17 (by decide) ?_
  refine lv_iadd hx hb dX1_insert_18 ?_
  rw [show (nI L.length) + 1 = nI (L.length + 1) from nI_add L.length 1]
  refine g_RSv (As := [.int (nI k), .int (nI (L.length + 1))]) (rest := []) ⟨hx, hb, hml, hown, hts⟩ (mt_X1_requirePlace l dC dI cA s.heap.size (nI k) (nI (L.length + 1)) (nI_pos (by omega)) (nI_lt (by omega) (by omega))) (va_cwS 2 hts gX1_insert_X1_requirePlace rfl rfl rfl hdX1_requirePlace ⟨Nat.le_of_ble_eq_true rfl, Nat.le_of_ble_eq_true rfl⟩) hP hK hD [] (by decide) rfl rfl hl.1 rfl (Nat.le_of_ble_eq_true rfl) dX1_insert_19 (Nat.zero_le _) (Nat.zero_le _) ?_
  refine lv_aload_n hx hb dX1_insert_22 rfl (lv_at hl 1 rfl) ?_
  refine lv_iload_n hx hb dX1_insert_23 rfl (lv_at hl 4 rfl) ?_
  refine g_RVv (As := [.int x]) (rest := []) ⟨hx, hb, hml, hown, hts⟩ (mt_X1_requireLetter l dC dI cA s.heap.size x0 r0 r1 r2 r3 (nI rn) x h0 h1 h2) (cwV 1 hts gX1_insert_X1_requireLetter rfl rfl rfl hdX1_requireLetter ⟨Nat.le_of_ble_eq_true rfl, Nat.le_of_ble_eq_true rfl⟩) hP hK hD [0] (by decide) rfl (va_recv hK hP (ci := 1) (q0 := 0) rfl rfl) rfl hl.1 rfl (Nat.le_of_ble_eq_true rfl) dX1_insert_24 (Nat.zero_le _) (Nat.zero_le _) ?_
  refine lv_aload hx hb dX1_insert_27 (lv_at hl 0 rfl) ?_
  refine lv_iconst (v := 2) hx hb dX1_insert_29 (by decide) ?_
  exact g_TS (As := [.ref r1, .int 2]) (rest := []) ⟨hx, hb, hml, hown, hts⟩ (th_X1_requireRoom l htr dC dI cA s.heap.size r1 a1 L f 2 (room_no L.length 2 (by omega) (by omega))) (va_cwS 2 hts gX1_insert_X1_requireRoom rfl rfl rfl hdX1_requireRoom ⟨Nat.le_of_ble_eq_true rfl, Nat.le_of_ble_eq_true rfl⟩) hP hK hD hA hZ [1, 2] (by decide) rfl rfl hl.1 rfl (Nat.le_of_ble_eq_true rfl) dX1_insert_30 (Nat.le_of_ble_eq_true rfl) (Nat.le_of_ble_eq_true rfl) hlocks hno

abbrev th_X1_cut_2_1_rm : Room := { frames := 6, cells := 1, slots := 6, locals := 90 }
set_option maxHeartbeats 4000000 in
set_option maxRecDepth 100000 in
/-- cut_2_1 -/
theorem th_X1_cut_2_1 (l : Launch) (htr : l.stackTraces = false) (dC : Nat → ClassId) (dI : Nat → Nat → Nat) (cA : ClassId) (sz : Nat) (x0 : Nat) (r0 : Nat) (r1 : Nat) (r2 : Nat) (r3 : Nat) (rn : Nat) (a1 : Nat) (L : List Int32) (f : Nat → Int32) (hR : RI L f) (he : enF L 0 = none) : vx_Met l yX1_cut wsX1_cut th_X1_cut_2_1_rm (va_Pc [.ref x0, .int (nI 1)] (gBT (dC, dI) [(cA, .int)] [(x0, .inr (1, [.ref r0, .ref r1, .ref r2, .ref r3, .int (nI rn)])), (r1, .inr (0, [.ref a1, .int (nI L.length)])), (a1, .inl (cA, (100, .inl f)))] sz)) gNo (gX gIS) 1 6 (fun _ => False) := by
  refine g_ofT (cc := cX1_cut) (maxL := 5) (ret := (some .int)) (XC := fun _ => gX gIS) (by decide) rfl (Nat.le_of_ble_eq_true rfl) (fun _ => False) (fun p e s m below meth c ls hx hb hml hts hown hlocks hno hP hK hl hsz hA hD hS hZ => ?_)
  have hl : lv_has ls 5 [(0, .ref x0), (1, .int (nI 1))] := hl
  have hL := hR.1
  refine lv_iload_n hx hb dX1_cut_0 rfl (lv_at hl 1 rfl) ?_
  refine g_RSv (As := [.int (nI 1)]) (rest := []) ⟨hx, hb, hml, hown, hts⟩ (mt_X1_requireWord l dC dI cA s.heap.size 1 (by first | omega | (simp only [List.length_append, List.length_cons, List.length_nil, List.length_set, turnL_len]; omega))) (va_cwS 1 hts gX1_cut_X1_requireWord rfl rfl rfl hdX1_requireWord ⟨Nat.le_of_ble_eq_true rfl, Nat.le_of_ble_eq_true rfl⟩) hP hK hD [] (by decide) rfl rfl hl.1 rfl (Nat.le_of_ble_eq_true rfl) dX1_cut_1 (Nat.zero_le _) (Nat.zero_le _) ?_
  refine lv_aload_n hx hb dX1_cut_4 rfl (lv_at hl 0 rfl) ?_
  refine lv_iload_n hx hb dX1_cut_5 rfl (lv_at hl 1 rfl) ?_
  refine g_RVr (As := [.int (nI 1)]) (rest := []) ⟨hx, hb, hml, hown, hts⟩ (mt_X1_rowOf1 l dC dI cA s.heap.size x0 r0 r1 r2 r3 (nI rn)) (cwV 1 hts gX1_cut_X1_rowOf rfl rfl rfl hdX1_rowOf ⟨Nat.le_of_ble_eq_true rfl, Nat.le_of_ble_eq_true rfl⟩) hP hK hD [0] (by decide) rfl (va_recv hK hP (ci := 1) (q0 := 0) rfl rfl) rfl hl.1 rfl (Nat.le_of_ble_eq_true rfl) dX1_cut_6 (Nat.zero_le _) (Nat.zero_le _) ?_
  refine lv_astore_n (lv' := [(2, .ref r1), (0, .ref x0), (1, .int (nI 1))]) hx hb dX1_cut_9 rfl hl (by decide) rfl (fun ls hl => ?_)
  refine lv_aload_n hx hb dX1_cut_10 rfl (lv_at hl 0 rfl) ?_
  refine lv_iconst (v := 0) hx hb dX1_cut_11 (by decide) ?_
  refine g_RSi (As := [.ref r1, .int 0]) (rest := []) ⟨hx, hb, hml, hown, hts⟩ (mt_X1_lastOfFirstHandle l dC dI cA s.heap.size r1 a1 L f 0 hR (by first | omega | (simp only [List.length_append, List.length_cons, List.length_nil, List.length_set, turnL_len]; omega))) (va_cwS 2 hts gX1_cut_X1_lastOfFirstHandle rfl rfl rfl hdX1_lastOfFirstHandle ⟨Nat.le_of_ble_eq_true rfl, Nat.le_of_ble_eq_true rfl⟩) hP hK hD [1, 2] (by decide) rfl rfl hl.1 rfl (Nat.le_of_ble_eq_true rfl) dX1_cut_12 (Nat.zero_le _) (Nat.zero_le _) ?_
  rw [show oiI (enF L 0) = -1 from by rw [he]; rfl]
  refine lv_istore_n (lv' := [(3, .int (-1)), (2, .ref r1), (0, .ref x0), (1, .int (nI 1))]) hx hb dX1_cut_15 rfl hl (by decide) rfl (fun ls hl => ?_)
  refine lv_iload_n hx hb dX1_cut_16 rfl (lv_at hl 0 rfl) ?_
  refine lv_iconst (v := (-1)) hx hb dX1_cut_17 (by decide) ?_
  refine lv_icmp_ne (tgt := 31) hx hb dX1_cut_18 (by decide) (fun c18 => ?_) (fun c18 => ?_)
  · exact absurd (by decide) c18
  · exact g_throw (text := "the word has no handle") hx hb htr hown (by decide) (hts (.classLink RX1 61 "java/lang/IllegalStateException") (List.mem_of_getElem? (i := 1) rfl)) (hts (.initialized "java/lang/IllegalStateException") (List.mem_of_getElem? (i := 2) rfl)) (fun w h => hts w (gx_X1_cut_gIS w h)) g_badIS g_otIS hZ (by decide +kernel) hS (hl.1.trans hml.symm) dX1_cut_21 dX1_cut_24 dX1_cut_25 dX1_cut_27 dX1_cut_30 hno (Nat.le_of_ble_eq_true rfl) (Nat.le_of_ble_eq_true rfl) (Nat.le_of_ble_eq_true rfl) (Nat.le_of_ble_eq_true rfl) hlocks (fun t _ h1 h2 => gX_here h1 h2) (fun q hq => absurd hq List.not_mem_nil) (Nat.le_refl _) (Nat.le_refl _)

abbrev th_X1_cut_2b_1_rm : Room := { frames := 7, cells := 1, slots := 6, locals := 111 }
set_option maxHeartbeats 4000000 in
set_option maxRecDepth 100000 in
/-- cut_2b_1 -/
theorem th_X1_cut_2b_1 (l : Launch) (htr : l.stackTraces = false) (dC : Nat → ClassId) (dI : Nat → Nat → Nat) (cA : ClassId) (sz : Nat) (x0 : Nat) (r0 : Nat) (r1 : Nat) (r2 : Nat) (r3 : Nat) (rn : Nat) (a1 : Nat) (L : List Int32) (f : Nat → Int32) (b9 : Nat) (e9 : Nat) (hR : RI L f) (he : enF L 0 = some e9) (hb9 : bg L e9 = some b9) (hk : 30 < (cutL L b9 e9).length) : vx_Met l yX1_cut wsX1_cut th_X1_cut_2b_1_rm (va_Pc [.ref x0, .int (nI 1)] (gBT (dC, dI) [(cA, .int)] [(x0, .inr (1, [.ref r0, .ref r1, .ref r2, .ref r3, .int (nI rn)])), (r1, .inr (0, [.ref a1, .int (nI L.length)])), (a1, .inl (cA, (100, .inl f)))] sz)) gNo (gX gIS) 1 6 (fun _ => False) := by
  refine g_ofT (cc := cX1_cut) (maxL := 5) (ret := (some .int)) (XC := fun _ => gX gIS) (by decide) rfl (Nat.le_of_ble_eq_true rfl) (fun _ => False) (fun p e s m below meth c ls hx hb hml hts hown hlocks hno hP hK hl hsz hA hD hS hZ => ?_)
  have hl : lv_has ls 5 [(0, .ref x0), (1, .int (nI 1))] := hl
  have hL := hR.1
  obtain ⟨-, he2, -, -⟩ := enF_spec he
  have hbl := bg_lt hb9
  have hcl := cutL_len hbl he2
  have hcn : cnL L b9 (e9 - (b9 + 1)) ≤ e9 - (b9 + 1) := cnL_le
  refine lv_iload_n hx hb dX1_cut_0 rfl (lv_at hl 1 rfl) ?_
  refine g_RSv (As := [.int (nI 1)]) (rest := []) ⟨hx, hb, hml, hown, hts⟩ (mt_X1_requireWord l dC dI cA s.heap.size 1 (by first | omega | (simp only [List.length_append, List.length_cons, List.length_nil, List.length_set, turnL_len]; omega))) (va_cwS 1 hts gX1_cut_X1_requireWord rfl rfl rfl hdX1_requireWord ⟨Nat.le_of_ble_eq_true rfl, Nat.le_of_ble_eq_true rfl⟩) hP hK hD [] (by decide) rfl rfl hl.1 rfl (Nat.le_of_ble_eq_true rfl) dX1_cut_1 (Nat.zero_le _) (Nat.zero_le _) ?_
  refine lv_aload_n hx hb dX1_cut_4 rfl (lv_at hl 0 rfl) ?_
  refine lv_iload_n hx hb dX1_cut_5 rfl (lv_at hl 1 rfl) ?_
  refine g_RVr (As := [.int (nI 1)]) (rest := []) ⟨hx, hb, hml, hown, hts⟩ (mt_X1_rowOf1 l dC dI cA s.heap.size x0 r0 r1 r2 r3 (nI rn)) (cwV 1 hts gX1_cut_X1_rowOf rfl rfl rfl hdX1_rowOf ⟨Nat.le_of_ble_eq_true rfl, Nat.le_of_ble_eq_true rfl⟩) hP hK hD [0] (by decide) rfl (va_recv hK hP (ci := 1) (q0 := 0) rfl rfl) rfl hl.1 rfl (Nat.le_of_ble_eq_true rfl) dX1_cut_6 (Nat.zero_le _) (Nat.zero_le _) ?_
  refine lv_astore_n (lv' := [(2, .ref r1), (0, .ref x0), (1, .int (nI 1))]) hx hb dX1_cut_9 rfl hl (by decide) rfl (fun ls hl => ?_)
  refine lv_aload_n hx hb dX1_cut_10 rfl (lv_at hl 0 rfl) ?_
  refine lv_iconst (v := 0) hx hb dX1_cut_11 (by decide) ?_
  refine g_RSi (As := [.ref r1, .int 0]) (rest := []) ⟨hx, hb, hml, hown, hts⟩ (mt_X1_lastOfFirstHandle l dC dI cA s.heap.size r1 a1 L f 0 hR (by first | omega | (simp only [List.length_append, List.length_cons, List.length_nil, List.length_set, turnL_len]; omega))) (va_cwS 2 hts gX1_cut_X1_lastOfFirstHandle rfl rfl rfl hdX1_lastOfFirstHandle ⟨Nat.le_of_ble_eq_true rfl, Nat.le_of_ble_eq_true rfl⟩) hP hK hD [1, 2] (by decide) rfl rfl hl.1 rfl (Nat.le_of_ble_eq_true rfl) dX1_cut_12 (Nat.zero_le _) (Nat.zero_le _) ?_
  rw [show oiI (enF L 0) = nI e9 from by rw [he]; rfl]
  refine lv_istore_n (lv' := [(3, .int (nI e9)), (2, .ref r1), (0, .ref x0), (1, .int (nI 1))]) hx hb dX1_cut_15 rfl hl (by decide) rfl (fun ls hl => ?_)
  refine lv_iload_n hx hb dX1_cut_16 rfl (lv_at hl 0 rfl) ?_
  refine lv_iconst (v := (-1)) hx hb dX1_cut_17 (by decide) ?_
  refine lv_icmp_ne (tgt := 31) hx hb dX1_cut_18 (by decide) (fun c18 => ?_) (fun c18 => ?_)
  · refine lv_aload_n hx hb dX1_cut_31 rfl (lv_at hl 1 rfl) ?_
    refine lv_iload_n hx hb dX1_cut_32 rfl (lv_at hl 0 rfl) ?_
    refine g_RSi (As := [.ref r1, .int (nI e9)]) (rest := []) ⟨hx, hb, hml, hown, hts⟩ (mt_X1_firstOfHandle l dC dI cA s.heap.size r1 a1 L f e9 hR (by first | omega | (simp only [List.length_append, List.length_cons, List.length_nil, List.length_set, turnL_len]; omega))) (va_cwS 2 hts gX1_cut_X1_firstOfHandle rfl rfl rfl hdX1_firstOfHandle ⟨Nat.le_of_ble_eq_true rfl, Nat.le_of_ble_eq_true rfl⟩) hP hK hD [1, 2] (by decide) rfl rfl hl.1 rfl (Nat.le_of_ble_eq_true rfl) dX1_cut_33 (Nat.zero_le _) (Nat.zero_le _) ?_
    rw [show oiI (bg L e9) = nI b9 from by rw [hb9]; rfl]
    refine lv_istore (lv' := [(4, .int (nI b9)), (3, .int (nI e9)), (2, .ref r1), (0, .ref x0), (1, .int (nI 1))]) hx hb dX1_cut_36 hl (by decide) rfl (fun ls hl => ?_)
    refine lv_aload_n hx hb dX1_cut_38 rfl (lv_at hl 2 rfl) ?_
    refine lv_aload_n hx hb dX1_cut_39 rfl (lv_at hl 2 rfl) ?_
    refine lv_iload hx hb dX1_cut_40 (lv_at hl 0 rfl) ?_
    refine lv_iload_n hx hb dX1_cut_42 rfl (lv_at hl 1 rfl) ?_
    refine g_RSi (As := [.ref r1, .int (nI b9), .int (nI e9)]) (rest := [.ref r1]) ⟨hx, hb, hml, hown, hts⟩ (mt_X1_moreByCutting l dC dI cA s.heap.size r1 a1 L f b9 e9 hR (by first | omega | (simp only [List.length_append, List.length_cons, List.length_nil, List.length_set, turnL_len]; omega)) (by first | omega | (simp only [List.length_append, List.length_cons, List.length_nil, List.length_set, turnL_len]; omega))) (va_cwS 3 hts gX1_cut_X1_moreByCutting rfl rfl rfl hdX1_moreByCutting ⟨Nat.le_of_ble_eq_true rfl, Nat.le_of_ble_eq_true rfl⟩) hP hK hD [1, 2] (by decide) rfl rfl hl.1 rfl (Nat.le_of_ble_eq_true rfl) dX1_cut_43 (Nat.zero_le _) (Nat.zero_le _) ?_
    exact g_TS (As := [.ref r1, .int (moI (cnL L b9 (e9 - (b9 + 1))))]) (rest := []) ⟨hx, hb, hml, hown, hts⟩ (th_X1_requireRoom l htr dC dI cA s.heap.size r1 a1 L f (moI (cnL L b9 (e9 - (b9 + 1)))) (by rw [cut_more hbl he2]; exact nI_ge hk (by omega))) (va_cwS 2 hts gX1_cut_X1_requireRoom rfl rfl rfl hdX1_requireRoom ⟨Nat.le_of_ble_eq_true rfl, Nat.le_of_ble_eq_true rfl⟩) hP hK hD hA hZ [1, 2] (by decide) rfl rfl hl.1 rfl (Nat.le_of_ble_eq_true rfl) dX1_cut_46 (Nat.le_of_ble_eq_true rfl) (Nat.le_of_ble_eq_true rfl) hlocks hno
  · exact absurd c18 (nI_nm1 (by omega))

abbrev th_X1_letter_1b_1_rm : Room := { frames := 7, cells := 1, slots := 6, locals := 111 }
set_option maxHeartbeats 4000000 in
set_option maxRecDepth 100000 in
/-- letter_1b_1 -/
theorem th_X1_letter_1b_1 (l : Launch) (htr : l.stackTraces = false) (dC : Nat → ClassId) (dI : Nat → Nat → Nat) (cA : ClassId) (sz : Nat) (x0 : Nat) (r0 : Nat) (r1 : Nat) (r2 : Nat) (r3 : Nat) (rn : Nat) (a1 : Nat) (L : List Int32) (f : Nat → Int32) (x : Int32) (hR : RI L f) (hbad : x < 0 ∨ nI L.length ≤ x) : vx_Met l yX1_letter wsX1_letter th_X1_letter_1b_1_rm (va_Pc [.ref x0, .int (nI 1), .int x] (gBT (dC, dI) [(cA, .int)] [(x0, .inr (1, [.ref r0, .ref r1, .ref r2, .ref r3, .int (nI rn)])), (r1, .inr (0, [.ref a1, .int (nI L.length)])), (a1, .inl (cA, (100, .inl f)))] sz)) gNo (gX gIO) 1 6 (fun _ => False) := by
  refine g_ofT (cc := cX1_letter) (maxL := 4) (ret := (some .int)) (XC := fun _ => gX gIO) (by decide) rfl (Nat.le_of_ble_eq_true rfl) (fun _ => False) (fun p e s m below meth c ls hx hb hml hts hown hlocks hno hP hK hl hsz hA hD hS hZ => ?_)
  have hl : lv_has ls 4 [(0, .ref x0), (1, .int (nI 1)), (2, .int x)] := hl
  have hL := hR.1
  refine lv_iload_n hx hb dX1_letter_0 rfl (lv_at hl 1 rfl) ?_
  refine g_RSv (As := [.int (nI 1)]) (rest := []) ⟨hx, hb, hml, hown, hts⟩ (mt_X1_requireWord l dC dI cA s.heap.size 1 (by first | omega | (simp only [List.length_append, List.length_cons, List.length_nil, List.length_set, turnL_len]; omega))) (va_cwS 1 hts gX1_letter_X1_requireWord rfl rfl rfl hdX1_requireWord ⟨Nat.le_of_ble_eq_true rfl, Nat.le_of_ble_eq_true rfl⟩) hP hK hD [] (by decide) rfl rfl hl.1 rfl (Nat.le_of_ble_eq_true rfl) dX1_letter_1 (Nat.zero_le _) (Nat.zero_le _) ?_
  refine lv_aload_n hx hb dX1_letter_4 rfl (lv_at hl 0 rfl) ?_
  refine lv_iload_n hx hb dX1_letter_5 rfl (lv_at hl 1 rfl) ?_
  refine g_RVr (As := [.int (nI 1)]) (rest := []) ⟨hx, hb, hml, hown, hts⟩ (mt_X1_rowOf1 l dC dI cA s.heap.size x0 r0 r1 r2 r3 (nI rn)) (cwV 1 hts gX1_letter_X1_rowOf rfl rfl rfl hdX1_rowOf ⟨Nat.le_of_ble_eq_true rfl, Nat.le_of_ble_eq_true rfl⟩) hP hK hD [0] (by decide) rfl (va_recv hK hP (ci := 1) (q0 := 0) rfl rfl) rfl hl.1 rfl (Nat.le_of_ble_eq_true rfl) dX1_letter_6 (Nat.zero_le _) (Nat.zero_le _) ?_
  refine lv_astore_n (lv' := [(3, .ref r1), (0, .ref x0), (1, .int (nI 1)), (2, .int x)]) hx hb dX1_letter_9 rfl hl (by decide) rfl (fun ls hl => ?_)
  refine lv_iload_n hx hb dX1_letter_10 rfl (lv_at hl 3 rfl) ?_
  refine lv_aload_n hx hb dX1_letter_11 rfl (lv_at hl 0 rfl) ?_
  refine g_RVi (As := []) (rest := [.int x]) ⟨hx, hb, hml, hown, hts⟩ (mt_X0_size l dC dI cA s.heap.size r1 a1 (nI L.length) f) (cwV 0 hts gX1_letter_X0_size rfl rfl rfl hdX0_size ⟨Nat.le_of_ble_eq_true rfl, Nat.le_of_ble_eq_true rfl⟩) hP hK hD [1, 2] (by decide) rfl (va_recv hK hP (ci := 0) (q0 := 1) rfl rfl) rfl hl.1 rfl (Nat.le_of_ble_eq_true rfl) dX1_letter_12 (Nat.zero_le _) (Nat.zero_le _) ?_
  exact g_TS (As := [.int x, .int (nI L.length)]) (rest := []) ⟨hx, hb, hml, hown, hts⟩ (th_X1_requirePlace l htr dC dI cA s.heap.size x (nI L.length) (by first | omega | (simp only [List.length_append, List.length_cons, List.length_nil, List.length_set, turnL_len]; omega))) (va_cwS 2 hts gX1_letter_X1_requirePlace rfl rfl rfl hdX1_requirePlace ⟨Nat.le_of_ble_eq_true rfl, Nat.le_of_ble_eq_true rfl⟩) hP hK hD hA hZ [] (by decide) rfl rfl hl.1 rfl (Nat.le_of_ble_eq_true rfl) dX1_letter_15 (Nat.le_of_ble_eq_true rfl) (Nat.le_of_ble_eq_true rfl) hlocks hno

abbrev th_X1_end_1b_1_rm : Room := { frames := 7, cells := 1, slots := 6, locals := 111 }
set_option maxHeartbeats 4000000 in
set_option maxRecDepth 100000 in
/-- end_1b_1 -/
theorem th_X1_end_1b_1 (l : Launch) (htr : l.stackTraces = false) (dC : Nat → ClassId) (dI : Nat → Nat → Nat) (cA : ClassId) (sz : Nat) (x0 : Nat) (r0 : Nat) (r1 : Nat) (r2 : Nat) (r3 : Nat) (rn : Nat) (x : Int32) (hbad : x < 0 ∨ nI rn ≤ x) : vx_Met l yX1_end wsX1_end th_X1_end_1b_1_rm (va_Pc [.ref x0, .int (nI 1), .int x] (gBT (dC, dI) [(cA, .int)] [(x0, .inr (1, [.ref r0, .ref r1, .ref r2, .ref r3, .int (nI rn)]))] sz)) gNo (gX gIO) 1 6 (fun _ => False) := by
  refine g_ofT (cc := cX1_end) (maxL := 3) (ret := (some .int)) (XC := fun _ => gX gIO) (by decide) rfl (Nat.le_of_ble_eq_true rfl) (fun _ => False) (fun p e s m below meth c ls hx hb hml hts hown hlocks hno hP hK hl hsz hA hD hS hZ => ?_)
  have hl : lv_has ls 3 [(0, .ref x0), (1, .int (nI 1)), (2, .int x)] := hl
  refine lv_iload_n hx hb dX1_end_0 rfl (lv_at hl 1 rfl) ?_
  refine g_RSv (As := [.int (nI 1)]) (rest := []) ⟨hx, hb, hml, hown, hts⟩ (mt_X1_requireWord l dC dI cA s.heap.size 1 (by first | omega | (simp only [List.length_append, List.length_cons, List.length_nil, List.length_set, turnL_len]; omega))) (va_cwS 1 hts gX1_end_X1_requireWord rfl rfl rfl hdX1_requireWord ⟨Nat.le_of_ble_eq_true rfl, Nat.le_of_ble_eq_true rfl⟩) hP hK hD [] (by decide) rfl rfl hl.1 rfl (Nat.le_of_ble_eq_true rfl) dX1_end_1 (Nat.zero_le _) (Nat.zero_le _) ?_
  refine lv_aload_n hx hb dX1_end_4 rfl (lv_at hl 0 rfl) ?_
  refine lv_iload_n hx hb dX1_end_5 rfl (lv_at hl 2 rfl) ?_
  exact g_TV (As := [.int x]) (rest := []) ⟨hx, hb, hml, hown, hts⟩ (th_X1_requireRope l htr dC dI cA s.heap.size x0 r0 r1 r2 r3 (nI rn) x (by first | omega | (simp only [List.length_append, List.length_cons, List.length_nil, List.length_set, turnL_len]; omega))) (cwV 1 hts gX1_end_X1_requireRope rfl rfl rfl hdX1_requireRope ⟨Nat.le_of_ble_eq_true rfl, Nat.le_of_ble_eq_true rfl⟩) hP hK hD hA hZ [0] (by decide) rfl (va_recv hK hP (ci := 1) (q0 := 0) rfl rfl) rfl hl.1 rfl (Nat.le_of_ble_eq_true rfl) dX1_end_6 (Nat.le_of_ble_eq_true rfl) (Nat.le_of_ble_eq_true rfl) hlocks hno

abbrev th_X1_crosses_1b_1_rm : Room := { frames := 7, cells := 1, slots := 6, locals := 111 }
set_option maxHeartbeats 4000000 in
set_option maxRecDepth 100000 in
/-- crosses_1b_1 -/
theorem th_X1_crosses_1b_1 (l : Launch) (htr : l.stackTraces = false) (dC : Nat → ClassId) (dI : Nat → Nat → Nat) (cA : ClassId) (sz : Nat) (x0 : Nat) (r0 : Nat) (r1 : Nat) (r2 : Nat) (r3 : Nat) (rn : Nat) (x : Int32) (y : Int32) (hbad : x < 0 ∨ nI rn ≤ x) : vx_Met l yX1_crosses wsX1_crosses th_X1_crosses_1b_1_rm (va_Pc [.ref x0, .int (nI 1), .int x, .int y] (gBT (dC, dI) [(cA, .int)] [(x0, .inr (1, [.ref r0, .ref r1, .ref r2, .ref r3, .int (nI rn)]))] sz)) gNo (gX gIO) 1 6 (fun _ => False) := by
  refine g_ofT (cc := cX1_crosses) (maxL := 4) (ret := (some .int)) (XC := fun _ => gX gIO) (by decide) rfl (Nat.le_of_ble_eq_true rfl) (fun _ => False) (fun p e s m below meth c ls hx hb hml hts hown hlocks hno hP hK hl hsz hA hD hS hZ => ?_)
  have hl : lv_has ls 4 [(0, .ref x0), (1, .int (nI 1)), (2, .int x), (3, .int y)] := hl
  refine lv_iload_n hx hb dX1_crosses_0 rfl (lv_at hl 1 rfl) ?_
  refine g_RSv (As := [.int (nI 1)]) (rest := []) ⟨hx, hb, hml, hown, hts⟩ (mt_X1_requireWord l dC dI cA s.heap.size 1 (by first | omega | (simp only [List.length_append, List.length_cons, List.length_nil, List.length_set, turnL_len]; omega))) (va_cwS 1 hts gX1_crosses_X1_requireWord rfl rfl rfl hdX1_requireWord ⟨Nat.le_of_ble_eq_true rfl, Nat.le_of_ble_eq_true rfl⟩) hP hK hD [] (by decide) rfl rfl hl.1 rfl (Nat.le_of_ble_eq_true rfl) dX1_crosses_1 (Nat.zero_le _) (Nat.zero_le _) ?_
  refine lv_aload_n hx hb dX1_crosses_4 rfl (lv_at hl 0 rfl) ?_
  refine lv_iload_n hx hb dX1_crosses_5 rfl (lv_at hl 2 rfl) ?_
  exact g_TV (As := [.int x]) (rest := []) ⟨hx, hb, hml, hown, hts⟩ (th_X1_requireRope l htr dC dI cA s.heap.size x0 r0 r1 r2 r3 (nI rn) x (by first | omega | (simp only [List.length_append, List.length_cons, List.length_nil, List.length_set, turnL_len]; omega))) (cwV 1 hts gX1_crosses_X1_requireRope rfl rfl rfl hdX1_requireRope ⟨Nat.le_of_ble_eq_true rfl, Nat.le_of_ble_eq_true rfl⟩) hP hK hD hA hZ [0] (by decide) rfl (va_recv hK hP (ci := 1) (q0 := 0) rfl rfl) rfl hl.1 rfl (Nat.le_of_ble_eq_true rfl) dX1_crosses_6 (Nat.le_of_ble_eq_true rfl) (Nat.le_of_ble_eq_true rfl) hlocks hno

abbrev th_X1_crosses_1c_1_rm : Room := { frames := 7, cells := 1, slots := 6, locals := 111 }
set_option maxHeartbeats 4000000 in
set_option maxRecDepth 100000 in
/-- crosses_1c_1 -/
theorem th_X1_crosses_1c_1 (l : Launch) (htr : l.stackTraces = false) (dC : Nat → ClassId) (dI : Nat → Nat → Nat) (cA : ClassId) (sz : Nat) (x0 : Nat) (r0 : Nat) (r1 : Nat) (r2 : Nat) (r3 : Nat) (rn : Nat) (x : Int32) (y : Int32) (h0 : ¬ x < 0) (h1 : x < nI rn) (hbad : y < 0 ∨ nI rn ≤ y) : vx_Met l yX1_crosses wsX1_crosses th_X1_crosses_1c_1_rm (va_Pc [.ref x0, .int (nI 1), .int x, .int y] (gBT (dC, dI) [(cA, .int)] [(x0, .inr (1, [.ref r0, .ref r1, .ref r2, .ref r3, .int (nI rn)]))] sz)) gNo (gX gIO) 1 6 (fun _ => False) := by
  refine g_ofT (cc := cX1_crosses) (maxL := 4) (ret := (some .int)) (XC := fun _ => gX gIO) (by decide) rfl (Nat.le_of_ble_eq_true rfl) (fun _ => False) (fun p e s m below meth c ls hx hb hml hts hown hlocks hno hP hK hl hsz hA hD hS hZ => ?_)
  have hl : lv_has ls 4 [(0, .ref x0), (1, .int (nI 1)), (2, .int x), (3, .int y)] := hl
  refine lv_iload_n hx hb dX1_crosses_0 rfl (lv_at hl 1 rfl) ?_
  refine g_RSv (As := [.int (nI 1)]) (rest := []) ⟨hx, hb, hml, hown, hts⟩ (mt_X1_requireWord l dC dI cA s.heap.size 1 (by first | omega | (simp only [List.length_append, List.length_cons, List.length_nil, List.length_set, turnL_len]; omega))) (va_cwS 1 hts gX1_crosses_X1_requireWord rfl rfl rfl hdX1_requireWord ⟨Nat.le_of_ble_eq_true rfl, Nat.le_of_ble_eq_true rfl⟩) hP hK hD [] (by decide) rfl rfl hl.1 rfl (Nat.le_of_ble_eq_true rfl) dX1_crosses_1 (Nat.zero_le _) (Nat.zero_le _) ?_
  refine lv_aload_n hx hb dX1_crosses_4 rfl (lv_at hl 0 rfl) ?_
  refine lv_iload_n hx hb dX1_crosses_5 rfl (lv_at hl 2 rfl) ?_
  refine g_RVv (As := [.int x]) (rest := []) ⟨hx, hb, hml, hown, hts⟩ (mt_X1_requireRope l dC dI cA s.heap.size x0 r0 r1 r2 r3 (nI rn) x h0 h1) (cwV 1 hts gX1_crosses_X1_requireRope rfl rfl rfl hdX1_requireRope ⟨Nat.le_of_ble_eq_true rfl, Nat.le_of_ble_eq_true rfl⟩) hP hK hD [0] (by decide) rfl (va_recv hK hP (ci := 1) (q0 := 0) rfl rfl) rfl hl.1 rfl (Nat.le_of_ble_eq_true rfl) dX1_crosses_6 (Nat.zero_le _) (Nat.zero_le _) ?_
  refine lv_aload_n hx hb dX1_crosses_9 rfl (lv_at hl 0 rfl) ?_
  refine lv_iload_n hx hb dX1_crosses_10 rfl (lv_at hl 3 rfl) ?_
  exact g_TV (As := [.int y]) (rest := []) ⟨hx, hb, hml, hown, hts⟩ (th_X1_requireRope l htr dC dI cA s.heap.size x0 r0 r1 r2 r3 (nI rn) y (by first | omega | (simp only [List.length_append, List.length_cons, List.length_nil, List.length_set, turnL_len]; omega))) (cwV 1 hts gX1_crosses_X1_requireRope rfl rfl rfl hdX1_requireRope ⟨Nat.le_of_ble_eq_true rfl, Nat.le_of_ble_eq_true rfl⟩) hP hK hD hA hZ [0] (by decide) rfl (va_recv hK hP (ci := 1) (q0 := 0) rfl rfl) rfl hl.1 rfl (Nat.le_of_ble_eq_true rfl) dX1_crosses_11 (Nat.le_of_ble_eq_true rfl) (Nat.le_of_ble_eq_true rfl) hlocks hno

abbrev th_X1_crosses_2_1_rm : Room := { frames := 6, cells := 1, slots := 6, locals := 90 }
set_option maxHeartbeats 4000000 in
set_option maxRecDepth 100000 in
/-- crosses_2_1 -/
theorem th_X1_crosses_2_1 (l : Launch) (htr : l.stackTraces = false) (dC : Nat → ClassId) (dI : Nat → Nat → Nat) (cA : ClassId) (sz : Nat) (x0 : Nat) (r0 : Nat) (r1 : Nat) (r2 : Nat) (r3 : Nat) (rn : Nat) (x : Int32) (y : Int32) (h0 : ¬ x < 0) (h1 : x < nI rn) (h2 : ¬ y < 0) (h3 : y < nI rn) (h4 : x = y) : vx_Met l yX1_crosses wsX1_crosses th_X1_crosses_2_1_rm (va_Pc [.ref x0, .int (nI 1), .int x, .int y] (gBT (dC, dI) [(cA, .int)] [(x0, .inr (1, [.ref r0, .ref r1, .ref r2, .ref r3, .int (nI rn)]))] sz)) gNo (gX gIA) 1 6 (fun _ => False) := by
  refine g_ofT (cc := cX1_crosses) (maxL := 4) (ret := (some .int)) (XC := fun _ => gX gIA) (by decide) rfl (Nat.le_of_ble_eq_true rfl) (fun _ => False) (fun p e s m below meth c ls hx hb hml hts hown hlocks hno hP hK hl hsz hA hD hS hZ => ?_)
  have hl : lv_has ls 4 [(0, .ref x0), (1, .int (nI 1)), (2, .int x), (3, .int y)] := hl
  refine lv_iload_n hx hb dX1_crosses_0 rfl (lv_at hl 1 rfl) ?_
  refine g_RSv (As := [.int (nI 1)]) (rest := []) ⟨hx, hb, hml, hown, hts⟩ (mt_X1_requireWord l dC dI cA s.heap.size 1 (by first | omega | (simp only [List.length_append, List.length_cons, List.length_nil, List.length_set, turnL_len]; omega))) (va_cwS 1 hts gX1_crosses_X1_requireWord rfl rfl rfl hdX1_requireWord ⟨Nat.le_of_ble_eq_true rfl, Nat.le_of_ble_eq_true rfl⟩) hP hK hD [] (by decide) rfl rfl hl.1 rfl (Nat.le_of_ble_eq_true rfl) dX1_crosses_1 (Nat.zero_le _) (Nat.zero_le _) ?_
  refine lv_aload_n hx hb dX1_crosses_4 rfl (lv_at hl 0 rfl) ?_
  refine lv_iload_n hx hb dX1_crosses_5 rfl (lv_at hl 2 rfl) ?_
  refine g_RVv (As := [.int x]) (rest := []) ⟨hx, hb, hml, hown, hts⟩ (mt_X1_requireRope l dC dI cA s.heap.size x0 r0 r1 r2 r3 (nI rn) x h0 h1) (cwV 1 hts gX1_crosses_X1_requireRope rfl rfl rfl hdX1_requireRope ⟨Nat.le_of_ble_eq_true rfl, Nat.le_of_ble_eq_true rfl⟩) hP hK hD [0] (by decide) rfl (va_recv hK hP (ci := 1) (q0 := 0) rfl rfl) rfl hl.1 rfl (Nat.le_of_ble_eq_true rfl) dX1_crosses_6 (Nat.zero_le _) (Nat.zero_le _) ?_
  refine lv_aload_n hx hb dX1_crosses_9 rfl (lv_at hl 0 rfl) ?_
  refine lv_iload_n hx hb dX1_crosses_10 rfl (lv_at hl 3 rfl) ?_
  refine g_RVv (As := [.int y]) (rest := []) ⟨hx, hb, hml, hown, hts⟩ (mt_X1_requireRope l dC dI cA s.heap.size x0 r0 r1 r2 r3 (nI rn) y h2 h3) (cwV 1 hts gX1_crosses_X1_requireRope rfl rfl rfl hdX1_requireRope ⟨Nat.le_of_ble_eq_true rfl, Nat.le_of_ble_eq_true rfl⟩) hP hK hD [0] (by decide) rfl (va_recv hK hP (ci := 1) (q0 := 0) rfl rfl) rfl hl.1 rfl (Nat.le_of_ble_eq_true rfl) dX1_crosses_11 (Nat.zero_le _) (Nat.zero_le _) ?_
  refine lv_iload_n hx hb dX1_crosses_14 rfl (lv_at hl 2 rfl) ?_
  refine lv_iload_n hx hb dX1_crosses_15 rfl (lv_at hl 3 rfl) ?_
  refine lv_icmp_ne (tgt := 29) hx hb dX1_crosses_16 (by decide) (fun c16 => ?_) (fun c16 => ?_)
  · exact absurd h4 c16
  · exact g_throw (text := "both ropes are the same") hx hb htr hown (by decide) (hts (.classLink RX1 29 "java/lang/IllegalArgumentException") (List.mem_of_getElem? (i := 1) rfl)) (hts (.initialized "java/lang/IllegalArgumentException") (List.mem_of_getElem? (i := 2) rfl)) (fun w h => hts w (gx_X1_crosses_gIA w h)) g_badIA g_otIA hZ (by decide +kernel) hS (hl.1.trans hml.symm) dX1_crosses_19 dX1_crosses_22 dX1_crosses_23 dX1_crosses_25 dX1_crosses_28 hno (Nat.le_of_ble_eq_true rfl) (Nat.le_of_ble_eq_true rfl) (Nat.le_of_ble_eq_true rfl) (Nat.le_of_ble_eq_true rfl) hlocks (fun t _ h1 h2 => gX_here h1 h2) (fun q hq => absurd hq List.not_mem_nil) (Nat.le_refl _) (Nat.le_refl _)

abbrev th_X1_handle_1b_1_rm : Room := { frames := 7, cells := 1, slots := 6, locals := 111 }
set_option maxHeartbeats 4000000 in
set_option maxRecDepth 100000 in
/-- handle_1b_1 -/
theorem th_X1_handle_1b_1 (l : Launch) (htr : l.stackTraces = false) (dC : Nat → ClassId) (dI : Nat → Nat → Nat) (cA : ClassId) (sz : Nat) (x0 : Nat) (r0 : Nat) (r1 : Nat) (r2 : Nat) (r3 : Nat) (rn : Nat) (x : Int32) (hbad : x < 0 ∨ 3 ≤ x) : vx_Met l yX1_handle wsX1_handle th_X1_handle_1b_1_rm (va_Pc [.ref x0, .int (nI 1), .int x] (gBT (dC, dI) [(cA, .int)] [(x0, .inr (1, [.ref r0, .ref r1, .ref r2, .ref r3, .int (nI rn)]))] sz)) gNo (gX gIO) 1 6 (fun _ => False) := by
  refine g_ofT (cc := cX1_handle) (maxL := 3) (ret := (some .int)) (XC := fun _ => gX gIO) (by decide) rfl (Nat.le_of_ble_eq_true rfl) (fun _ => False) (fun p e s m below meth c ls hx hb hml hts hown hlocks hno hP hK hl hsz hA hD hS hZ => ?_)
  have hl : lv_has ls 3 [(0, .ref x0), (1, .int (nI 1)), (2, .int x)] := hl
  refine lv_iload_n hx hb dX1_handle_0 rfl (lv_at hl 1 rfl) ?_
  refine g_RSv (As := [.int (nI 1)]) (rest := []) ⟨hx, hb, hml, hown, hts⟩ (mt_X1_requireWord l dC dI cA s.heap.size 1 (by first | omega | (simp only [List.length_append, List.length_cons, List.length_nil, List.length_set, turnL_len]; omega))) (va_cwS 1 hts gX1_handle_X1_requireWord rfl rfl rfl hdX1_requireWord ⟨Nat.le_of_ble_eq_true rfl, Nat.le_of_ble_eq_true rfl⟩) hP hK hD [] (by decide) rfl rfl hl.1 rfl (Nat.le_of_ble_eq_true rfl) dX1_handle_1 (Nat.zero_le _) (Nat.zero_le _) ?_
  refine lv_iload_n hx hb dX1_handle_4 rfl (lv_at hl 2 rfl) ?_
  refine lv_iconst (v := 3) hx hb dX1_handle_5 (by decide) ?_
  exact g_TS (As := [.int x, .int 3]) (rest := []) ⟨hx, hb, hml, hown, hts⟩ (th_X1_requireAnswer l htr dC dI cA s.heap.size x 3 (by first | omega | (simp only [List.length_append, List.length_cons, List.length_nil, List.length_set, turnL_len]; omega))) (va_cwS 2 hts gX1_handle_X1_requireAnswer rfl rfl rfl hdX1_requireAnswer ⟨Nat.le_of_ble_eq_true rfl, Nat.le_of_ble_eq_true rfl⟩) hP hK hD hA hZ [] (by decide) rfl rfl hl.1 rfl (Nat.le_of_ble_eq_true rfl) dX1_handle_6 (Nat.le_of_ble_eq_true rfl) (Nat.le_of_ble_eq_true rfl) hlocks hno

abbrev th_X1_plain_1b_1_rm : Room := { frames := 7, cells := 1, slots := 6, locals := 111 }
set_option maxHeartbeats 4000000 in
set_option maxRecDepth 100000 in
/-- plain_1b_1 -/
theorem th_X1_plain_1b_1 (l : Launch) (htr : l.stackTraces = false) (dC : Nat → ClassId) (dI : Nat → Nat → Nat) (cA : ClassId) (sz : Nat) (x0 : Nat) (r0 : Nat) (r1 : Nat) (r2 : Nat) (r3 : Nat) (rn : Nat) (x : Int32) (hbad : x < 0 ∨ 4 ≤ x) : vx_Met l yX1_plain wsX1_plain th_X1_plain_1b_1_rm (va_Pc [.ref x0, .int (nI 1), .int x] (gBT (dC, dI) [(cA, .int)] [(x0, .inr (1, [.ref r0, .ref r1, .ref r2, .ref r3, .int (nI rn)]))] sz)) gNo (gX gIO) 1 6 (fun _ => False) := by
  refine g_ofT (cc := cX1_plain) (maxL := 3) (ret := (some .int)) (XC := fun _ => gX gIO) (by decide) rfl (Nat.le_of_ble_eq_true rfl) (fun _ => False) (fun p e s m below meth c ls hx hb hml hts hown hlocks hno hP hK hl hsz hA hD hS hZ => ?_)
  have hl : lv_has ls 3 [(0, .ref x0), (1, .int (nI 1)), (2, .int x)] := hl
  refine lv_iload_n hx hb dX1_plain_0 rfl (lv_at hl 1 rfl) ?_
  refine g_RSv (As := [.int (nI 1)]) (rest := []) ⟨hx, hb, hml, hown, hts⟩ (mt_X1_requireWord l dC dI cA s.heap.size 1 (by first | omega | (simp only [List.length_append, List.length_cons, List.length_nil, List.length_set, turnL_len]; omega))) (va_cwS 1 hts gX1_plain_X1_requireWord rfl rfl rfl hdX1_requireWord ⟨Nat.le_of_ble_eq_true rfl, Nat.le_of_ble_eq_true rfl⟩) hP hK hD [] (by decide) rfl rfl hl.1 rfl (Nat.le_of_ble_eq_true rfl) dX1_plain_1 (Nat.zero_le _) (Nat.zero_le _) ?_
  refine lv_iload_n hx hb dX1_plain_4 rfl (lv_at hl 2 rfl) ?_
  refine lv_iconst (v := 4) hx hb dX1_plain_5 (by decide) ?_
  exact g_TS (As := [.int x, .int 4]) (rest := []) ⟨hx, hb, hml, hown, hts⟩ (th_X1_requireAnswer l htr dC dI cA s.heap.size x 4 (by first | omega | (simp only [List.length_append, List.length_cons, List.length_nil, List.length_set, turnL_len]; omega))) (va_cwS 2 hts gX1_plain_X1_requireAnswer rfl rfl rfl hdX1_requireAnswer ⟨Nat.le_of_ble_eq_true rfl, Nat.le_of_ble_eq_true rfl⟩) hP hK hD hA hZ [] (by decide) rfl rfl hl.1 rfl (Nat.le_of_ble_eq_true rfl) dX1_plain_6 (Nat.le_of_ble_eq_true rfl) (Nat.le_of_ble_eq_true rfl) hlocks hno

abbrev th_X1_advise_2_1_rm : Room := { frames := 6, cells := 1, slots := 6, locals := 95 }