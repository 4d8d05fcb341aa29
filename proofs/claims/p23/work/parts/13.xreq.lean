set_option maxRecDepth 20000 in
theorem gx_X1_requireWord_gIO : ∀ w ∈ (vx_atS RX1 179 gIO gNames).filter goodWord, w ∈ wsX1_requireWord := by decide +kernel
set_option maxRecDepth 20000 in
theorem gx_X1_requirePlace_gIO : ∀ w ∈ (vx_atS RX1 179 gIO gNames).filter goodWord, w ∈ wsX1_requirePlace := by decide +kernel
set_option maxRecDepth 20000 in
theorem gx_X1_requireAnswer_gIO : ∀ w ∈ (vx_atS RX1 179 gIO gNames).filter goodWord, w ∈ wsX1_requireAnswer := by decide +kernel
set_option maxRecDepth 20000 in
theorem in_X1_requireRope_1 : ∀ w ∈ wsX10, w ∈ wsX1_requireRope := by decide +kernel
set_option maxRecDepth 20000 in
theorem gx_X1_requireRope_gIO : ∀ w ∈ (vx_atS RX1 179 gIO gNames).filter goodWord, w ∈ wsX1_requireRope := by decide +kernel
set_option maxRecDepth 20000 in
theorem in_X1_requireLetter_1 : ∀ w ∈ wsX10, w ∈ wsX1_requireLetter := by decide +kernel
set_option maxRecDepth 20000 in
theorem gx_X1_requireLetter_gIA : ∀ w ∈ (vx_atS RX1 33 gIA gNames).filter goodWord, w ∈ wsX1_requireLetter := by decide +kernel
set_option maxRecDepth 20000 in
theorem gx_X1_requireRoom_gIS : ∀ w ∈ (vx_atS RX1 65 gIS gNames).filter goodWord, w ∈ wsX1_requireRoom := by decide +kernel
abbrev mt_X1_requireWord_rm : Room := { frames := 0, cells := 0, slots := 0, locals := 0 }
set_option maxHeartbeats 4000000 in
set_option maxRecDepth 100000 in
/-- requireWord, 0 or 1 -/
theorem mt_X1_requireWord (l : Launch) (dC : Nat → ClassId) (dI : Nat → Nat → Nat) (cA : ClassId) (sz : Nat) (q : Nat) (hq : q ≤ 1) : Met l yX1_requireWord wsX1_requireWord mt_X1_requireWord_rm (va_Pc [.int (nI q)] (gB (dC, dI) [(cA, .int)] [] sz)) (gR none) 0 0 (fun _ => False) := by
  refine g_ofR (cc := cX1_requireWord) (maxL := 1) (ret := none) (by decide) rfl (Nat.le_of_ble_eq_true rfl) (fun p e s m below meth c ls hx hb hr hml hts hown hlocks hP hK hl hD => ?_)
  have hS : va_S (fun _ => True) s.heap s.heap [] := va_S.rf
  have hl : lv_has ls 1 [(0, .int (nI q))] := hl
  refine lv_iload_n hx hb dX1_requireWord_0 rfl (lv_at hl 0 rfl) ?_
  refine lv_if_lt (tgt := 9) hx hb dX1_requireWord_1 (by decide) (fun c1 => ?_) (fun c1 => ?_)
  · exact absurd (g_ltT q 0 (by omega) (by omega) c1) (by omega)
  · have c1 : 0 ≤ q := g_ltF q 0 (by omega) (by omega) c1
    refine lv_iload_n hx hb dX1_requireWord_4 rfl (lv_at hl 0 rfl) ?_
    refine lv_iconst (v := 1) hx hb dX1_requireWord_5 (by decide) ?_
    refine lv_icmp_le (tgt := 19) hx hb dX1_requireWord_6 (by decide) (fun c6 => ?_) (fun c6 => ?_)
    · have c6 : q ≤ 1 := g_leT q 1 (by omega) (by omega) c6
      exact g_endRv hx hb hr hlocks dX1_requireWord_19
    · exact absurd (g_leF q 1 (by omega) (by omega) c6) (by omega)

abbrev th_X1_requireWord_rm : Room := { frames := 6, cells := 1, slots := 6, locals := 90 }
set_option maxHeartbeats 4000000 in
set_option maxRecDepth 100000 in
/-- requireWord throws -/
theorem th_X1_requireWord (l : Launch) (htr : l.stackTraces = false) (dC : Nat → ClassId) (dI : Nat → Nat → Nat) (cA : ClassId) (sz : Nat) (wd : Int32) (hbad : wd < 0 ∨ 1 < wd) : vx_Met l yX1_requireWord wsX1_requireWord th_X1_requireWord_rm (va_Pc [.int wd] (gBT (dC, dI) [(cA, .int)] [] sz)) gNo (gX gIO) 1 6 (fun _ => False) := by
  refine g_ofT (cc := cX1_requireWord) (maxL := 1) (ret := none) (XC := fun _ => gX gIO) (by decide) rfl (Nat.le_of_ble_eq_true rfl) (fun _ => False) (fun p e s m below meth c ls hx hb hml hts hown hlocks hno hP hK hl hsz hA hD hS hZ => ?_)
  have hl : lv_has ls 1 [(0, .int wd)] := hl
  refine lv_iload_n hx hb dX1_requireWord_0 rfl (lv_at hl 0 rfl) ?_
  refine lv_if_lt (tgt := 9) hx hb dX1_requireWord_1 (by decide) (fun c1 => ?_) (fun c1 => ?_)
  · exact g_throw (text := "word is not 0 to 1") hx hb htr hown (by decide) (hts (.classLink RX1 175 "java/lang/IndexOutOfBoundsException") (List.mem_of_getElem? (i := 1) rfl)) (hts (.initialized "java/lang/IndexOutOfBoundsException") (List.mem_of_getElem? (i := 2) rfl)) (fun w h => hts w (gx_X1_requireWord_gIO w h)) g_badIO g_otIO hZ (by decide +kernel) hS (hl.1.trans hml.symm) dX1_requireWord_9 dX1_requireWord_12 dX1_requireWord_13 dX1_requireWord_15 dX1_requireWord_18 hno (Nat.le_of_ble_eq_true rfl) (Nat.le_of_ble_eq_true rfl) (Nat.le_of_ble_eq_true rfl) (Nat.le_of_ble_eq_true rfl) hlocks (fun t _ h1 h2 => gX_here h1 h2) (fun q hq => absurd hq List.not_mem_nil) (Nat.le_refl _) (Nat.le_refl _)
  · refine lv_iload_n hx hb dX1_requireWord_4 rfl (lv_at hl 0 rfl) ?_
    refine lv_iconst (v := 1) hx hb dX1_requireWord_5 (by decide) ?_
    refine lv_icmp_le (tgt := 19) hx hb dX1_requireWord_6 (by decide) (fun c6 => ?_) (fun c6 => ?_)
    · exact (hbad.elim c1 (fun q9 => Int32.not_lt.mpr c6 q9)).elim
    · exact g_throw (text := "word is not 0 to 1") hx hb htr hown (by decide) (hts (.classLink RX1 175 "java/lang/IndexOutOfBoundsException") (List.mem_of_getElem? (i := 1) rfl)) (hts (.initialized "java/lang/IndexOutOfBoundsException") (List.mem_of_getElem? (i := 2) rfl)) (fun w h => hts w (gx_X1_requireWord_gIO w h)) g_badIO g_otIO hZ (by decide +kernel) hS (hl.1.trans hml.symm) dX1_requireWord_9 dX1_requireWord_12 dX1_requireWord_13 dX1_requireWord_15 dX1_requireWord_18 hno (Nat.le_of_ble_eq_true rfl) (Nat.le_of_ble_eq_true rfl) (Nat.le_of_ble_eq_true rfl) (Nat.le_of_ble_eq_true rfl) hlocks (fun t _ h1 h2 => gX_here h1 h2) (fun q hq => absurd hq List.not_mem_nil) (Nat.le_refl _) (Nat.le_refl _)

abbrev mt_X1_requirePlace_rm : Room := { frames := 0, cells := 0, slots := 0, locals := 0 }
set_option maxHeartbeats 4000000 in
set_option maxRecDepth 100000 in
/-- requirePlace -/
theorem mt_X1_requirePlace (l : Launch) (dC : Nat → ClassId) (dI : Nat → Nat → Nat) (cA : ClassId) (sz : Nat) (x : Int32) (y : Int32) (h0 : ¬ x < 0) (h1 : x < y) : Met l yX1_requirePlace wsX1_requirePlace mt_X1_requirePlace_rm (va_Pc [.int x, .int y] (gB (dC, dI) [(cA, .int)] [] sz)) (gR none) 0 0 (fun _ => False) := by
  refine g_ofR (cc := cX1_requirePlace) (maxL := 2) (ret := none) (by decide) rfl (Nat.le_of_ble_eq_true rfl) (fun p e s m below meth c ls hx hb hr hml hts hown hlocks hP hK hl hD => ?_)
  have hS : va_S (fun _ => True) s.heap s.heap [] := va_S.rf
  have hl : lv_has ls 2 [(0, .int x), (1, .int y)] := hl
  refine lv_iload_n hx hb dX1_requirePlace_0 rfl (lv_at hl 0 rfl) ?_
  refine lv_if_lt (tgt := 9) hx hb dX1_requirePlace_1 (by decide) (fun c1 => ?_) (fun c1 => ?_)
  · exact absurd c1 h0
  · refine lv_iload_n hx hb dX1_requirePlace_4 rfl (lv_at hl 0 rfl) ?_
    refine lv_iload_n hx hb dX1_requirePlace_5 rfl (lv_at hl 1 rfl) ?_
    refine lv_icmp_lt (tgt := 19) hx hb dX1_requirePlace_6 (by decide) (fun c6 => ?_) (fun c6 => ?_)
    · exact g_endRv hx hb hr hlocks dX1_requirePlace_19
    · exact absurd h1 c6

abbrev th_X1_requirePlace_rm : Room := { frames := 6, cells := 1, slots := 6, locals := 90 }
set_option maxHeartbeats 4000000 in
set_option maxRecDepth 100000 in
/-- requirePlace throws -/
theorem th_X1_requirePlace (l : Launch) (htr : l.stackTraces = false) (dC : Nat → ClassId) (dI : Nat → Nat → Nat) (cA : ClassId) (sz : Nat) (x : Int32) (y : Int32) (hbad : x < 0 ∨ y ≤ x) : vx_Met l yX1_requirePlace wsX1_requirePlace th_X1_requirePlace_rm (va_Pc [.int x, .int y] (gBT (dC, dI) [(cA, .int)] [] sz)) gNo (gX gIO) 1 6 (fun _ => False) := by
  refine g_ofT (cc := cX1_requirePlace) (maxL := 2) (ret := none) (XC := fun _ => gX gIO) (by decide) rfl (Nat.le_of_ble_eq_true rfl) (fun _ => False) (fun p e s m below meth c ls hx hb hml hts hown hlocks hno hP hK hl hsz hA hD hS hZ => ?_)
  have hl : lv_has ls 2 [(0, .int x), (1, .int y)] := hl
  refine lv_iload_n hx hb dX1_requirePlace_0 rfl (lv_at hl 0 rfl) ?_
  refine lv_if_lt (tgt := 9) hx hb dX1_requirePlace_1 (by decide) (fun c1 => ?_) (fun c1 => ?_)
  · exact g_throw (text := "there is no such place") hx hb htr hown (by decide) (hts (.classLink RX1 175 "java/lang/IndexOutOfBoundsException") (List.mem_of_getElem? (i := 1) rfl)) (hts (.initialized "java/lang/IndexOutOfBoundsException") (List.mem_of_getElem? (i := 2) rfl)) (fun w h => hts w (gx_X1_requirePlace_gIO w h)) g_badIO g_otIO hZ (by decide +kernel) hS (hl.1.trans hml.symm) dX1_requirePlace_9 dX1_requirePlace_12 dX1_requirePlace_13 dX1_requirePlace_15 dX1_requirePlace_18 hno (Nat.le_of_ble_eq_true rfl) (Nat.le_of_ble_eq_true rfl) (Nat.le_of_ble_eq_true rfl) (Nat.le_of_ble_eq_true rfl) hlocks (fun t _ h1 h2 => gX_here h1 h2) (fun q hq => absurd hq List.not_mem_nil) (Nat.le_refl _) (Nat.le_refl _)
  · refine lv_iload_n hx hb dX1_requirePlace_4 rfl (lv_at hl 0 rfl) ?_
    refine lv_iload_n hx hb dX1_requirePlace_5 rfl (lv_at hl 1 rfl) ?_
    refine lv_icmp_lt (tgt := 19) hx hb dX1_requirePlace_6 (by decide) (fun c6 => ?_) (fun c6 => ?_)
    · exact (hbad.elim c1 (fun q9 => Int32.not_lt.mpr q9 c6)).elim
    · exact g_throw (text := "there is no such place") hx hb htr hown (by decide) (hts (.classLink RX1 175 "java/lang/IndexOutOfBoundsException") (List.mem_of_getElem? (i := 1) rfl)) (hts (.initialized "java/lang/IndexOutOfBoundsException") (List.mem_of_getElem? (i := 2) rfl)) (fun w h => hts w (gx_X1_requirePlace_gIO w h)) g_badIO g_otIO hZ (by decide +kernel) hS (hl.1.trans hml.symm) dX1_requirePlace_9 dX1_requirePlace_12 dX1_requirePlace_13 dX1_requirePlace_15 dX1_requirePlace_18 hno (Nat.le_of_ble_eq_true rfl) (Nat.le_of_ble_eq_true rfl) (Nat.le_of_ble_eq_true rfl) (Nat.le_of_ble_eq_true rfl) hlocks (fun t _ h1 h2 => gX_here h1 h2) (fun q hq => absurd hq List.not_mem_nil) (Nat.le_refl _) (Nat.le_refl _)

abbrev mt_X1_requireAnswer_rm : Room := { frames := 0, cells := 0, slots := 0, locals := 0 }
set_option maxHeartbeats 4000000 in
set_option maxRecDepth 100000 in
/-- requireAnswer -/
theorem mt_X1_requireAnswer (l : Launch) (dC : Nat → ClassId) (dI : Nat → Nat → Nat) (cA : ClassId) (sz : Nat) (x : Int32) (y : Int32) (h0 : ¬ x < 0) (h1 : x < y) : Met l yX1_requireAnswer wsX1_requireAnswer mt_X1_requireAnswer_rm (va_Pc [.int x, .int y] (gB (dC, dI) [(cA, .int)] [] sz)) (gR none) 0 0 (fun _ => False) := by
  refine g_ofR (cc := cX1_requireAnswer) (maxL := 2) (ret := none) (by decide) rfl (Nat.le_of_ble_eq_true rfl) (fun p e s m below meth c ls hx hb hr hml hts hown hlocks hP hK hl hD => ?_)
  have hS : va_S (fun _ => True) s.heap s.heap [] := va_S.rf
  have hl : lv_has ls 2 [(0, .int x), (1, .int y)] := hl
  refine lv_iload_n hx hb dX1_requireAnswer_0 rfl (lv_at hl 0 rfl) ?_
  refine lv_if_lt (tgt := 9) hx hb dX1_requireAnswer_1 (by decide) (fun c1 => ?_) (fun c1 => ?_)
  · exact absurd c1 h0
  · refine lv_iload_n hx hb dX1_requireAnswer_4 rfl (lv_at hl 0 rfl) ?_
    refine lv_iload_n hx hb dX1_requireAnswer_5 rfl (lv_at hl 1 rfl) ?_
    refine lv_icmp_lt (tgt := 19) hx hb dX1_requireAnswer_6 (by decide) (fun c6 => ?_) (fun c6 => ?_)
    · exact g_endRv hx hb hr hlocks dX1_requireAnswer_19
    · exact absurd h1 c6

abbrev th_X1_requireAnswer_rm : Room := { frames := 6, cells := 1, slots := 6, locals := 90 }
set_option maxHeartbeats 4000000 in
set_option maxRecDepth 100000 in
/-- requireAnswer throws -/
theorem th_X1_requireAnswer (l : Launch) (htr : l.stackTraces = false) (dC : Nat → ClassId) (dI : Nat → Nat → Nat) (cA : ClassId) (sz : Nat) (x : Int32) (y : Int32) (hbad : x < 0 ∨ y ≤ x) : vx_Met l yX1_requireAnswer wsX1_requireAnswer th_X1_requireAnswer_rm (va_Pc [.int x, .int y] (gBT (dC, dI) [(cA, .int)] [] sz)) gNo (gX gIO) 1 6 (fun _ => False) := by
  refine g_ofT (cc := cX1_requireAnswer) (maxL := 2) (ret := none) (XC := fun _ => gX gIO) (by decide) rfl (Nat.le_of_ble_eq_true rfl) (fun _ => False) (fun p e s m below meth c ls hx hb hml hts hown hlocks hno hP hK hl hsz hA hD hS hZ => ?_)
  have hl : lv_has ls 2 [(0, .int x), (1, .int y)] := hl
  refine lv_iload_n hx hb dX1_requireAnswer_0 rfl (lv_at hl 0 rfl) ?_
  refine lv_if_lt (tgt := 9) hx hb dX1_requireAnswer_1 (by decide) (fun c1 => ?_) (fun c1 => ?_)
  · exact g_throw (text := "there is no such answer") hx hb htr hown (by decide) (hts (.classLink RX1 175 "java/lang/IndexOutOfBoundsException") (List.mem_of_getElem? (i := 1) rfl)) (hts (.initialized "java/lang/IndexOutOfBoundsException") (List.mem_of_getElem? (i := 2) rfl)) (fun w h => hts w (gx_X1_requireAnswer_gIO w h)) g_badIO g_otIO hZ (by decide +kernel) hS (hl.1.trans hml.symm) dX1_requireAnswer_9 dX1_requireAnswer_12 dX1_requireAnswer_13 dX1_requireAnswer_15 dX1_requireAnswer_18 hno (Nat.le_of_ble_eq_true rfl) (Nat.le_of_ble_eq_true rfl) (Nat.le_of_ble_eq_true rfl) (Nat.le_of_ble_eq_true rfl) hlocks (fun t _ h1 h2 => gX_here h1 h2) (fun q hq => absurd hq List.not_mem_nil) (Nat.le_refl _) (Nat.le_refl _)
  · refine lv_iload_n hx hb dX1_requireAnswer_4 rfl (lv_at hl 0 rfl) ?_
    refine lv_iload_n hx hb dX1_requireAnswer_5 rfl (lv_at hl 1 rfl) ?_
    refine lv_icmp_lt (tgt := 19) hx hb dX1_requireAnswer_6 (by decide) (fun c6 => ?_) (fun c6 => ?_)
    · exact (hbad.elim c1 (fun q9 => Int32.not_lt.mpr q9 c6)).elim
    · exact g_throw (text := "there is no such answer") hx hb htr hown (by decide) (hts (.classLink RX1 175 "java/lang/IndexOutOfBoundsException") (List.mem_of_getElem? (i := 1) rfl)) (hts (.initialized "java/lang/IndexOutOfBoundsException") (List.mem_of_getElem? (i := 2) rfl)) (fun w h => hts w (gx_X1_requireAnswer_gIO w h)) g_badIO g_otIO hZ (by decide +kernel) hS (hl.1.trans hml.symm) dX1_requireAnswer_9 dX1_requireAnswer_12 dX1_requireAnswer_13 dX1_requireAnswer_15 dX1_requireAnswer_18 hno (Nat.le_of_ble_eq_true rfl) (Nat.le_of_ble_eq_true rfl) (Nat.le_of_ble_eq_true rfl) (Nat.le_of_ble_eq_true rfl) hlocks (fun t _ h1 h2 => gX_here h1 h2) (fun q hq => absurd hq List.not_mem_nil) (Nat.le_refl _) (Nat.le_refl _)

abbrev mt_X1_requireRope_rm : Room := { frames := 0, cells := 0, slots := 0, locals := 0 }
set_option maxHeartbeats 4000000 in
set_option maxRecDepth 100000 in
/-- requireRope -/
theorem mt_X1_requireRope (l : Launch) (dC : Nat → ClassId) (dI : Nat → Nat → Nat) (cA : ClassId) (sz : Nat) (x0 : Nat) (r0 : Nat) (r1 : Nat) (r2 : Nat) (r3 : Nat) (R9 : Int32) (x : Int32) (h0 : ¬ x < 0) (h1 : x < R9) : Met l yX1_requireRope wsX1_requireRope mt_X1_requireRope_rm (va_Pc [.ref x0, .int x] (gB (dC, dI) [(cA, .int)] [(x0, .inr (1, [.ref r0, .ref r1, .ref r2, .ref r3, .int R9]))] sz)) (gR none) 0 0 (fun _ => False) := by
  refine g_ofR (cc := cX1_requireRope) (maxL := 2) (ret := none) (by decide) rfl (Nat.le_of_ble_eq_true rfl) (fun p e s m below meth c ls hx hb hr hml hts hown hlocks hP hK hl hD => ?_)
  have hS : va_S (fun _ => True) s.heap s.heap [] := va_S.rf
  have hl : lv_has ls 2 [(0, .ref x0), (1, .int x)] := hl
  refine lv_iload_n hx hb dX1_requireRope_0 rfl (lv_at hl 1 rfl) ?_
  refine lv_if_lt (tgt := 12) hx hb dX1_requireRope_1 (by decide) (fun c1 => ?_) (fun c1 => ?_)
  · exact absurd c1 h0
  · refine lv_iload_n hx hb dX1_requireRope_4 rfl (lv_at hl 1 rfl) ?_
    refine lv_aload_n hx hb dX1_requireRope_5 rfl (lv_at hl 0 rfl) ?_
    refine va_get (D := (dC, dI)) (ci := 1) (v := .int R9) (C := RX1) (T := TX1) (N := 5) hx hb hts (in_X1_requireRope_1) hown hK hP 0 rfl rfl 4 (by decide) (hts (.fieldLink RX1 25 "BraidWords" "ropes" "I") (List.mem_of_getElem? (i := 3) rfl)) (fun _ h9 => h9) rfl dX1_requireRope_6 ?_
    refine lv_icmp_lt (tgt := 22) hx hb dX1_requireRope_9 (by decide) (fun c9 => ?_) (fun c9 => ?_)
    · exact g_endRv hx hb hr hlocks dX1_requireRope_22
    · exact absurd h1 c9

abbrev th_X1_requireRope_rm : Room := { frames := 6, cells := 1, slots := 6, locals := 90 }
set_option maxHeartbeats 4000000 in
set_option maxRecDepth 100000 in
/-- requireRope throws -/
theorem th_X1_requireRope (l : Launch) (htr : l.stackTraces = false) (dC : Nat → ClassId) (dI : Nat → Nat → Nat) (cA : ClassId) (sz : Nat) (x0 : Nat) (r0 : Nat) (r1 : Nat) (r2 : Nat) (r3 : Nat) (R9 : Int32) (x : Int32) (hbad : x < 0 ∨ R9 ≤ x) : vx_Met l yX1_requireRope wsX1_requireRope th_X1_requireRope_rm (va_Pc [.ref x0, .int x] (gBT (dC, dI) [(cA, .int)] [(x0, .inr (1, [.ref r0, .ref r1, .ref r2, .ref r3, .int R9]))] sz)) gNo (gX gIO) 1 6 (fun _ => False) := by
  refine g_ofT (cc := cX1_requireRope) (maxL := 2) (ret := none) (XC := fun _ => gX gIO) (by decide) rfl (Nat.le_of_ble_eq_true rfl) (fun _ => False) (fun p e s m below meth c ls hx hb hml hts hown hlocks hno hP hK hl hsz hA hD hS hZ => ?_)
  have hl : lv_has ls 2 [(0, .ref x0), (1, .int x)] := hl
  refine lv_iload_n hx hb dX1_requireRope_0 rfl (lv_at hl 1 rfl) ?_
  refine lv_if_lt (tgt := 12) hx hb dX1_requireRope_1 (by decide) (fun c1 => ?_) (fun c1 => ?_)
  · exact g_throw (text := "there is no such rope") hx hb htr hown (by decide) (hts (.classLink RX1 175 "java/lang/IndexOutOfBoundsException") (List.mem_of_getElem? (i := 1) rfl)) (hts (.initialized "java/lang/IndexOutOfBoundsException") (List.mem_of_getElem? (i := 2) rfl)) (fun w h => hts w (gx_X1_requireRope_gIO w h)) g_badIO g_otIO hZ (by decide +kernel) hS (hl.1.trans hml.symm) dX1_requireRope_12 dX1_requireRope_15 dX1_requireRope_16 dX1_requireRope_18 dX1_requireRope_21 hno (Nat.le_of_ble_eq_true rfl) (Nat.le_of_ble_eq_true rfl) (Nat.le_of_ble_eq_true rfl) (Nat.le_of_ble_eq_true rfl) hlocks (fun t _ h1 h2 => gX_here h1 h2) (fun q hq => absurd hq List.not_mem_nil) (Nat.le_refl _) (Nat.le_refl _)
  · refine lv_iload_n hx hb dX1_requireRope_4 rfl (lv_at hl 1 rfl) ?_
    refine lv_aload_n hx hb dX1_requireRope_5 rfl (lv_at hl 0 rfl) ?_
    refine va_get (D := (dC, dI)) (ci := 1) (v := .int R9) (C := RX1) (T := TX1) (N := 5) hx hb hts (in_X1_requireRope_1) hown hK hP 0 rfl rfl 4 (by decide) (hts (.fieldLink RX1 25 "BraidWords" "ropes" "I") (List.mem_of_getElem? (i := 3) rfl)) (fun _ h9 => h9) rfl dX1_requireRope_6 ?_
    refine lv_icmp_lt (tgt := 22) hx hb dX1_requireRope_9 (by decide) (fun c9 => ?_) (fun c9 => ?_)
    · exact (hbad.elim c1 (fun q9 => Int32.not_lt.mpr q9 c9)).elim
    · exact g_throw (text := "there is no such rope") hx hb htr hown (by decide) (hts (.classLink RX1 175 "java/lang/IndexOutOfBoundsException") (List.mem_of_getElem? (i := 1) rfl)) (hts (.initialized "java/lang/IndexOutOfBoundsException") (List.mem_of_getElem? (i := 2) rfl)) (fun w h => hts w (gx_X1_requireRope_gIO w h)) g_badIO g_otIO hZ (by decide +kernel) hS (hl.1.trans hml.symm) dX1_requireRope_12 dX1_requireRope_15 dX1_requireRope_16 dX1_requireRope_18 dX1_requireRope_21 hno (Nat.le_of_ble_eq_true rfl) (Nat.le_of_ble_eq_true rfl) (Nat.le_of_ble_eq_true rfl) (Nat.le_of_ble_eq_true rfl) hlocks (fun t _ h1 h2 => gX_here h1 h2) (fun q hq => absurd hq List.not_mem_nil) (Nat.le_refl _) (Nat.le_refl _)

abbrev mt_X1_requireLetter_rm : Room := { frames := 0, cells := 0, slots := 0, locals := 0 }
set_option maxHeartbeats 4000000 in
set_option maxRecDepth 100000 in
/-- requireLetter -/
theorem mt_X1_requireLetter (l : Launch) (dC : Nat → ClassId) (dI : Nat → Nat → Nat) (cA : ClassId) (sz : Nat) (x0 : Nat) (r0 : Nat) (r1 : Nat) (r2 : Nat) (r3 : Nat) (R9 : Int32) (x : Int32) (h0 : ¬ x = 0) (h1 : ¬ x ≤ -R9) (h2 : x < R9) : Met l yX1_requireLetter wsX1_requireLetter mt_X1_requireLetter_rm (va_Pc [.ref x0, .int x] (gB (dC, dI) [(cA, .int)] [(x0, .inr (1, [.ref r0, .ref r1, .ref r2, .ref r3, .int R9]))] sz)) (gR none) 0 0 (fun _ => False) := by
  refine g_ofR (cc := cX1_requireLetter) (maxL := 2) (ret := none) (by decide) rfl (Nat.le_of_ble_eq_true rfl) (fun p e s m below meth c ls hx hb hr hml hts hown hlocks hP hK hl hD => ?_)
  have hS : va_S (fun _ => True) s.heap s.heap [] := va_S.rf
  have hl : lv_has ls 2 [(0, .ref x0), (1, .int x)] := hl
  refine lv_iload_n hx hb dX1_requireLetter_0 rfl (lv_at hl 1 rfl) ?_
  refine lv_if_eq (tgt := 21) hx hb dX1_requireLetter_1 (by decide) (fun c1 => ?_) (fun c1 => ?_)
  · exact absurd c1 h0
  · refine lv_iload_n hx hb dX1_requireLetter_4 rfl (lv_at hl 1 rfl) ?_
    refine lv_aload_n hx hb dX1_requireLetter_5 rfl (lv_at hl 0 rfl) ?_
    refine va_get (D := (dC, dI)) (ci := 1) (v := .int R9) (C := RX1) (T := TX1) (N := 5) hx hb hts (in_X1_requireLetter_1) hown hK hP 0 rfl rfl 4 (by decide) (hts (.fieldLink RX1 25 "BraidWords" "ropes" "I") (List.mem_of_getElem? (i := 3) rfl)) (fun _ h9 => h9) rfl dX1_requireLetter_6 ?_
    refine lv_ineg hx hb dX1_requireLetter_9 ?_
    refine lv_icmp_le (tgt := 21) hx hb dX1_requireLetter_10 (by decide) (fun c10 => ?_) (fun c10 => ?_)
    · exact absurd c10 h1
    · refine lv_iload_n hx hb dX1_requireLetter_13 rfl (lv_at hl 1 rfl) ?_
      refine lv_aload_n hx hb dX1_requireLetter_14 rfl (lv_at hl 0 rfl) ?_
      refine va_get (D := (dC, dI)) (ci := 1) (v := .int R9) (C := RX1) (T := TX1) (N := 5) hx hb hts (in_X1_requireLetter_1) hown hK hP 0 rfl rfl 4 (by decide) (hts (.fieldLink RX1 25 "BraidWords" "ropes" "I") (List.mem_of_getElem? (i := 3) rfl)) (fun _ h9 => h9) rfl dX1_requireLetter_15 ?_
      refine lv_icmp_lt (tgt := 31) hx hb dX1_requireLetter_18 (by decide) (fun c18 => ?_) (fun c18 => ?_)
      · exact g_endRv hx hb hr hlocks dX1_requireLetter_31
      · exact absurd h2 c18

abbrev th_X1_requireLetter_rm : Room := { frames := 6, cells := 1, slots := 6, locals := 90 }
set_option maxHeartbeats 4000000 in
set_option maxRecDepth 100000 in
/-- requireLetter throws -/
theorem th_X1_requireLetter (l : Launch) (htr : l.stackTraces = false) (dC : Nat → ClassId) (dI : Nat → Nat → Nat) (cA : ClassId) (sz : Nat) (x0 : Nat) (r0 : Nat) (r1 : Nat) (r2 : Nat) (r3 : Nat) (R9 : Int32) (x : Int32) (hbad : x = 0 ∨ x ≤ -R9 ∨ R9 ≤ x) : vx_Met l yX1_requireLetter wsX1_requireLetter th_X1_requireLetter_rm (va_Pc [.ref x0, .int x] (gBT (dC, dI) [(cA, .int)] [(x0, .inr (1, [.ref r0, .ref r1, .ref r2, .ref r3, .int R9]))] sz)) gNo (gX gIA) 1 6 (fun _ => False) := by
  refine g_ofT (cc := cX1_requireLetter) (maxL := 2) (ret := none) (XC := fun _ => gX gIA) (by decide) rfl (Nat.le_of_ble_eq_true rfl) (fun _ => False) (fun p e s m below meth c ls hx hb hml hts hown hlocks hno hP hK hl hsz hA hD hS hZ => ?_)
  have hl : lv_has ls 2 [(0, .ref x0), (1, .int x)] := hl
  refine lv_iload_n hx hb dX1_requireLetter_0 rfl (lv_at hl 1 rfl) ?_
  refine lv_if_eq (tgt := 21) hx hb dX1_requireLetter_1 (by decide) (fun c1 => ?_) (fun c1 => ?_)
  · exact g_throw (text := "there is no such letter") hx hb htr hown (by decide) (hts (.classLink RX1 29 "java/lang/IllegalArgumentException") (List.mem_of_getElem? (i := 1) rfl)) (hts (.initialized "java/lang/IllegalArgumentException") (List.mem_of_getElem? (i := 2) rfl)) (fun w h => hts w (gx_X1_requireLetter_gIA w h)) g_badIA g_otIA hZ (by decide +kernel) hS (hl.1.trans hml.symm) dX1_requireLetter_21 dX1_requireLetter_24 dX1_requireLetter_25 dX1_requireLetter_27 dX1_requireLetter_30 hno (Nat.le_of_ble_eq_true rfl) (Nat.le_of_ble_eq_true rfl) (Nat.le_of_ble_eq_true rfl) (Nat.le_of_ble_eq_true rfl) hlocks (fun t _ h1 h2 => gX_here h1 h2) (fun q hq => absurd hq List.not_mem_nil) (Nat.le_refl _) (Nat.le_refl _)
  · refine lv_iload_n hx hb dX1_requireLetter_4 rfl (lv_at hl 1 rfl) ?_
    refine lv_aload_n hx hb dX1_requireLetter_5 rfl (lv_at hl 0 rfl) ?_
    refine va_get (D := (dC, dI)) (ci := 1) (v := .int R9) (C := RX1) (T := TX1) (N := 5) hx hb hts (in_X1_requireLetter_1) hown hK hP 0 rfl rfl 4 (by decide) (hts (.fieldLink RX1 25 "BraidWords" "ropes" "I") (List.mem_of_getElem? (i := 3) rfl)) (fun _ h9 => h9) rfl dX1_requireLetter_6 ?_
    refine lv_ineg hx hb dX1_requireLetter_9 ?_
    refine lv_icmp_le (tgt := 21) hx hb dX1_requireLetter_10 (by decide) (fun c10 => ?_) (fun c10 => ?_)
    · exact g_throw (text := "there is no such letter") hx hb htr hown (by decide) (hts (.classLink RX1 29 "java/lang/IllegalArgumentException") (List.mem_of_getElem? (i := 1) rfl)) (hts (.initialized "java/lang/IllegalArgumentException") (List.mem_of_getElem? (i := 2) rfl)) (fun w h => hts w (gx_X1_requireLetter_gIA w h)) g_badIA g_otIA hZ (by decide +kernel) hS (hl.1.trans hml.symm) dX1_requireLetter_21 dX1_requireLetter_24 dX1_requireLetter_25 dX1_requireLetter_27 dX1_requireLetter_30 hno (Nat.le_of_ble_eq_true rfl) (Nat.le_of_ble_eq_true rfl) (Nat.le_of_ble_eq_true rfl) (Nat.le_of_ble_eq_true rfl) hlocks (fun t _ h1 h2 => gX_here h1 h2) (fun q hq => absurd hq List.not_mem_nil) (Nat.le_refl _) (Nat.le_refl _)
    · refine lv_iload_n hx hb dX1_requireLetter_13 rfl (lv_at hl 1 rfl) ?_
      refine lv_aload_n hx hb dX1_requireLetter_14 rfl (lv_at hl 0 rfl) ?_
      refine va_get (D := (dC, dI)) (ci := 1) (v := .int R9) (C := RX1) (T := TX1) (N := 5) hx hb hts (in_X1_requireLetter_1) hown hK hP 0 rfl rfl 4 (by decide) (hts (.fieldLink RX1 25 "BraidWords" "ropes" "I") (List.mem_of_getElem? (i := 3) rfl)) (fun _ h9 => h9) rfl dX1_requireLetter_15 ?_
      refine lv_icmp_lt (tgt := 31) hx hb dX1_requireLetter_18 (by decide) (fun c18 => ?_) (fun c18 => ?_)
      · exact (hbad.elim c1 (fun q9 => q9.elim c10 (fun q8 => Int32.not_lt.mpr q8 c18))).elim
      · exact g_throw (text := "there is no such letter") hx hb htr hown (by decide) (hts (.classLink RX1 29 "java/lang/IllegalArgumentException") (List.mem_of_getElem? (i := 1) rfl)) (hts (.initialized "java/lang/IllegalArgumentException") (List.mem_of_getElem? (i := 2) rfl)) (fun w h => hts w (gx_X1_requireLetter_gIA w h)) g_badIA g_otIA hZ (by decide +kernel) hS (hl.1.trans hml.symm) dX1_requireLetter_21 dX1_requireLetter_24 dX1_requireLetter_25 dX1_requireLetter_27 dX1_requireLetter_30 hno (Nat.le_of_ble_eq_true rfl) (Nat.le_of_ble_eq_true rfl) (Nat.le_of_ble_eq_true rfl) (Nat.le_of_ble_eq_true rfl) hlocks (fun t _ h1 h2 => gX_here h1 h2) (fun q hq => absurd hq List.not_mem_nil) (Nat.le_refl _) (Nat.le_refl _)

abbrev mt_X1_requireRoom_rm : Room := { frames := 1, cells := 0, slots := 0, locals := 20 }
set_option maxHeartbeats 4000000 in
set_option maxRecDepth 100000 in
/-- requireRoom -/
theorem mt_X1_requireRoom (l : Launch) (dC : Nat → ClassId) (dI : Nat → Nat → Nat) (cA : ClassId) (sz : Nat) (h : Nat) (a : Nat) (L : List Int32) (f : Nat → Int32) (x : Int32) (hroom : nI L.length + x ≤ 30) : Met l yX1_requireRoom wsX1_requireRoom mt_X1_requireRoom_rm (va_Pc [.ref h, .int x] (gB (dC, dI) [(cA, .int)] [(h, .inr (0, [.ref a, .int (nI L.length)])), (a, .inl (cA, (100, .inl f)))] sz)) (gR none) 0 0 (fun _ => False) := by
  refine g_ofR (cc := cX1_requireRoom) (maxL := 2) (ret := none) (by decide) rfl (Nat.le_of_ble_eq_true rfl) (fun p e s m below meth c ls hx hb hr hml hts hown hlocks hP hK hl hD => ?_)
  have hS : va_S (fun _ => True) s.heap s.heap [] := va_S.rf
  have hl : lv_has ls 2 [(0, .ref h), (1, .int x)] := hl
  refine lv_aload_n hx hb dX1_requireRoom_0 rfl (lv_at hl 0 rfl) ?_
  refine g_RVi (As := []) (rest := []) ⟨hx, hb, hml, hown, hts⟩ (mt_X0_size l dC dI cA s.heap.size h a (nI L.length) f) (cwV 0 hts gX1_requireRoom_X0_size rfl rfl rfl hdX0_size ⟨Nat.le_of_ble_eq_true rfl, Nat.le_of_ble_eq_true rfl⟩) hP hK hD [0, 1] (by decide) rfl (va_recv hK hP (ci := 0) (q0 := 0) rfl rfl) rfl hl.1 rfl (Nat.le_of_ble_eq_true rfl) dX1_requireRoom_1 (Nat.zero_le _) (Nat.zero_le _) ?_
  refine lv_iload_n hx hb dX1_requireRoom_4 rfl (lv_at hl 1 rfl) ?_
  refine lv_iadd hx hb dX1_requireRoom_5 ?_
  refine lv_bipush (v := 30) hx hb dX1_requireRoom_6 (by decide) ?_
  refine lv_icmp_le (tgt := 21) hx hb dX1_requireRoom_8 (by decide) (fun c8 => ?_) (fun c8 => ?_)
  · exact g_endRv hx hb hr hlocks dX1_requireRoom_21
  · exact absurd hroom c8

abbrev th_X1_requireRoom_rm : Room := { frames := 6, cells := 1, slots := 6, locals := 90 }
set_option maxHeartbeats 4000000 in
set_option maxRecDepth 100000 in
/-- requireRoom throws -/
theorem th_X1_requireRoom (l : Launch) (htr : l.stackTraces = false) (dC : Nat → ClassId) (dI : Nat → Nat → Nat) (cA : ClassId) (sz : Nat) (h : Nat) (a : Nat) (L : List Int32) (f : Nat → Int32) (x : Int32) (hroom : ¬ nI L.length + x ≤ 30) : vx_Met l yX1_requireRoom wsX1_requireRoom th_X1_requireRoom_rm (va_Pc [.ref h, .int x] (gBT (dC, dI) [(cA, .int)] [(h, .inr (0, [.ref a, .int (nI L.length)])), (a, .inl (cA, (100, .inl f)))] sz)) gNo (gX gIS) 1 6 (fun _ => False) := by
  refine g_ofT (cc := cX1_requireRoom) (maxL := 2) (ret := none) (XC := fun _ => gX gIS) (by decide) rfl (Nat.le_of_ble_eq_true rfl) (fun _ => False) (fun p e s m below meth c ls hx hb hml hts hown hlocks hno hP hK hl hsz hA hD hS hZ => ?_)
  have hl : lv_has ls 2 [(0, .ref h), (1, .int x)] := hl
  refine lv_aload_n hx hb dX1_requireRoom_0 rfl (lv_at hl 0 rfl) ?_
  refine g_RVi (As := []) (rest := []) ⟨hx, hb, hml, hown, hts⟩ (mt_X0_size l dC dI cA s.heap.size h a (nI L.length) f) (cwV 0 hts gX1_requireRoom_X0_size rfl rfl rfl hdX0_size ⟨Nat.le_of_ble_eq_true rfl, Nat.le_of_ble_eq_true rfl⟩) hP hK hD [0, 1] (by decide) rfl (va_recv hK hP (ci := 0) (q0 := 0) rfl rfl) rfl hl.1 rfl (Nat.le_of_ble_eq_true rfl) dX1_requireRoom_1 (Nat.zero_le _) (Nat.zero_le _) ?_
  refine lv_iload_n hx hb dX1_requireRoom_4 rfl (lv_at hl 1 rfl) ?_
  refine lv_iadd hx hb dX1_requireRoom_5 ?_
  refine lv_bipush (v := 30) hx hb dX1_requireRoom_6 (by decide) ?_
  refine lv_icmp_le (tgt := 21) hx hb dX1_requireRoom_8 (by decide) (fun c8 => ?_) (fun c8 => ?_)
  · exact absurd c8 hroom
  · exact g_throw (text := "these are more letters than a word holds") hx hb htr hown (by decide) (hts (.classLink RX1 61 "java/lang/IllegalStateException") (List.mem_of_getElem? (i := 1) rfl)) (hts (.initialized "java/lang/IllegalStateException") (List.mem_of_getElem? (i := 2) rfl)) (fun w h => hts w (gx_X1_requireRoom_gIS w h)) g_badIS g_otIS hZ (by decide +kernel) hS (hl.1.trans hml.symm) dX1_requireRoom_11 dX1_requireRoom_14 dX1_requireRoom_15 dX1_requireRoom_17 dX1_requireRoom_20 hno (Nat.le_of_ble_eq_true rfl) (Nat.le_of_ble_eq_true rfl) (Nat.le_of_ble_eq_true rfl) (Nat.le_of_ble_eq_true rfl) hlocks (fun t _ h1 h2 => gX_here h1 h2) (fun q hq => absurd hq List.not_mem_nil) (Nat.le_refl _) (Nat.le_refl _)
