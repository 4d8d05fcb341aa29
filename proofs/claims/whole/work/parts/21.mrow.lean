theorem in_one {v lo hi : Int32} (h : ¬ inI v lo hi = 0) : inI v lo hi = 1 := by
  unfold inI at h ⊢
  split
  · rfl
  · next c => exact absurd (if_neg c) h
set_option maxRecDepth 20000 in
theorem in_X2_isLetter_2 : ∀ w ∈ wsX20, w ∈ wsX2_isLetter := by decide +kernel
set_option maxRecDepth 20000 in
theorem in_X2_isRope_2 : ∀ w ∈ wsX20, w ∈ wsX2_isRope := by decide +kernel
set_option maxRecDepth 20000 in
theorem in_X2_no_2 : ∀ w ∈ wsX20, w ∈ wsX2_no := by decide +kernel
set_option maxRecDepth 20000 in
theorem in_X2_thrown_2 : ∀ w ∈ wsX20, w ∈ wsX2_thrown := by decide +kernel
set_option maxRecDepth 20000 in
theorem in_X2_at_2 : ∀ w ∈ wsX20, w ∈ wsX2_at := by decide +kernel
set_option maxRecDepth 20000 in
theorem in_X2_put_2 : ∀ w ∈ wsX20, w ∈ wsX2_put := by decide +kernel
set_option maxRecDepth 20000 in
theorem in_X2_take_2 : ∀ w ∈ wsX20, w ∈ wsX2_take := by decide +kernel
set_option maxRecDepth 20000 in
theorem in_X2_load_2 : ∀ w ∈ wsX20, w ∈ wsX2_load := by decide +kernel
set_option maxRecDepth 20000 in
theorem in_X2_loadBoth_2 : ∀ w ∈ wsX20, w ∈ wsX2_loadBoth := by decide +kernel
set_option maxRecDepth 20000 in
theorem in_X2_store_2 : ∀ w ∈ wsX20, w ∈ wsX2_store := by decide +kernel
set_option maxRecDepth 20000 in
theorem in_X2_begins_2 : ∀ w ∈ wsX20, w ∈ wsX2_begins := by decide +kernel
set_option maxRecDepth 20000 in
theorem in_X2_ends_2 : ∀ w ∈ wsX20, w ∈ wsX2_ends := by decide +kernel
set_option maxRecDepth 20000 in
theorem in_X2_more_2 : ∀ w ∈ wsX20, w ∈ wsX2_more := by decide +kernel
theorem hdX2_at : yX2_at.cls = RX2 ∧ yX2_at.cls ≠ "java/lang/invoke/MethodHandle" ∧ yX2_at.cls ≠ "java/lang/invoke/VarHandle" ∧ (parseMethodDescriptor yX2_at.desc).map (fun d => d.parameters.length) = some 2 := by decide +kernel
theorem hdX2_begins : yX2_begins.cls = RX2 ∧ yX2_begins.cls ≠ "java/lang/invoke/MethodHandle" ∧ yX2_begins.cls ≠ "java/lang/invoke/VarHandle" ∧ (parseMethodDescriptor yX2_begins.desc).map (fun d => d.parameters.length) = some 1 := by decide +kernel
theorem hdX2_isIn : yX2_isIn.cls ≠ "java/lang/invoke/MethodHandle" ∧ yX2_isIn.cls ≠ "java/lang/invoke/VarHandle" ∧ (parseMethodDescriptor yX2_isIn.desc).map (fun d => d.parameters.length) = some 3 := by decide +kernel
theorem hdX2_put : yX2_put.cls = RX2 ∧ yX2_put.cls ≠ "java/lang/invoke/MethodHandle" ∧ yX2_put.cls ≠ "java/lang/invoke/VarHandle" ∧ (parseMethodDescriptor yX2_put.desc).map (fun d => d.parameters.length) = some 3 := by decide +kernel
theorem hdX2_take : yX2_take.cls = RX2 ∧ yX2_take.cls ≠ "java/lang/invoke/MethodHandle" ∧ yX2_take.cls ≠ "java/lang/invoke/VarHandle" ∧ (parseMethodDescriptor yX2_take.desc).map (fun d => d.parameters.length) = some 2 := by decide +kernel
abbrev mt_X2_isIn_rm : Room := { frames := 0, cells := 0, slots := 0, locals := 0 }
set_option maxHeartbeats 4000000 in
set_option maxRecDepth 100000 in
theorem mt_X2_isIn (l : Launch) (dC : Nat → ClassId) (dI : Nat → Nat → Nat) (cA : ClassId) (sz : Nat) (v : Int32) (lo : Int32) (hi : Int32) : Met l yX2_isIn wsX2_isIn mt_X2_isIn_rm (va_Pc [.int v, .int lo, .int hi] (gB (dC, dI) [(cA, .int)] [] sz)) (gR (some (.int (inI v lo hi)))) 0 0 (fun _ => False) := by
  refine g_ofR (cc := cX2_isIn) (maxL := 3) (ret := (some .boolean)) (by decide) rfl (Nat.le_of_ble_eq_true rfl) (fun p e s m below meth c ls hx hb hr hml hts hown hlocks hP hK hl hD => ?_)
  have hS : va_S (fun _ => True) s.heap s.heap [] := va_S.rf
  have hl : lv_has ls 3 [(0, .int v), (1, .int lo), (2, .int hi)] := hl
  refine lv_iload_n hx hb dX2_isIn_0 rfl (lv_at hl 0 rfl) ?_
  refine lv_iload_n hx hb dX2_isIn_1 rfl (lv_at hl 1 rfl) ?_
  refine lv_icmp_lt (tgt := 14) hx hb dX2_isIn_2 (by decide) (fun c2 => ?_) (fun c2 => ?_)
  · refine lv_iconst (v := 0) hx hb dX2_isIn_14 (by decide) ?_
    exact g_endRz hx hb hr hlocks dX2_isIn_15 (by decide) (by unfold inI; first | (rw [if_pos ⟨Int32.not_lt.mp c2, Int32.not_lt.mp c7⟩]; done) | (rw [if_neg (fun q => Int32.not_lt.mpr q.1 c2)]; done) | (rw [if_neg (fun q => Int32.not_lt.mpr q.2 c7)]; done))
  · refine lv_iload_n hx hb dX2_isIn_5 rfl (lv_at hl 0 rfl) ?_
    refine lv_iload_n hx hb dX2_isIn_6 rfl (lv_at hl 2 rfl) ?_
    refine lv_icmp_gt (tgt := 14) hx hb dX2_isIn_7 (by decide) (fun c7 => ?_) (fun c7 => ?_)
    · refine lv_iconst (v := 0) hx hb dX2_isIn_14 (by decide) ?_
      exact g_endRz hx hb hr hlocks dX2_isIn_15 (by decide) (by unfold inI; first | (rw [if_pos ⟨Int32.not_lt.mp c2, Int32.not_lt.mp c7⟩]; done) | (rw [if_neg (fun q => Int32.not_lt.mpr q.1 c2)]; done) | (rw [if_neg (fun q => Int32.not_lt.mpr q.2 c7)]; done))
    · refine lv_iconst (v := 1) hx hb dX2_isIn_10 (by decide) ?_
      refine lv_goto (tgt := 15) hx hb dX2_isIn_11 (by decide) ?_
      exact g_endRz hx hb hr hlocks dX2_isIn_15 (by decide) (by unfold inI; first | (rw [if_pos ⟨Int32.not_lt.mp c2, Int32.not_lt.mp c7⟩]; done) | (rw [if_neg (fun q => Int32.not_lt.mpr q.1 c2)]; done) | (rw [if_neg (fun q => Int32.not_lt.mpr q.2 c7)]; done))

abbrev mt_X2_isWord_rm : Room := { frames := 1, cells := 0, slots := 0, locals := 22 }
set_option maxHeartbeats 4000000 in
set_option maxRecDepth 100000 in
theorem mt_X2_isWord (l : Launch) (dC : Nat → ClassId) (dI : Nat → Nat → Nat) (cA : ClassId) (sz : Nat) (v : Int32) : Met l yX2_isWord wsX2_isWord mt_X2_isWord_rm (va_Pc [.int v] (gB (dC, dI) [(cA, .int)] [] sz)) (gR (some (.int (inI v 0 1)))) 0 0 (fun _ => False) := by
  refine g_ofR (cc := cX2_isWord) (maxL := 1) (ret := (some .boolean)) (by decide) rfl (Nat.le_of_ble_eq_true rfl) (fun p e s m below meth c ls hx hb hr hml hts hown hlocks hP hK hl hD => ?_)
  have hS : va_S (fun _ => True) s.heap s.heap [] := va_S.rf
  have hl : lv_has ls 1 [(0, .int v)] := hl
  refine lv_iload_n hx hb dX2_isWord_0 rfl (lv_at hl 0 rfl) ?_
  refine lv_iconst (v := 0) hx hb dX2_isWord_1 (by decide) ?_
  refine lv_iconst (v := 1) hx hb dX2_isWord_2 (by decide) ?_
  refine g_RSi (As := [.int v, .int 0, .int 1]) (rest := []) ⟨hx, hb, hml, hown, hts⟩ (mt_X2_isIn l dC dI cA s.heap.size v 0 1) (va_cwS 3 hts gX2_isWord_X2_isIn rfl rfl rfl hdX2_isIn ⟨Nat.le_of_ble_eq_true rfl, Nat.le_of_ble_eq_true rfl⟩) hP hK hD [] (by decide) rfl rfl hl.1 rfl (Nat.le_of_ble_eq_true rfl) dX2_isWord_3 (Nat.zero_le _) (Nat.zero_le _) ?_
  exact g_endRz hx hb hr hlocks dX2_isWord_6 (by unfold inI; split <;> decide) rfl

abbrev mt_X2_isLetter_rm : Room := { frames := 1, cells := 0, slots := 0, locals := 22 }
set_option maxHeartbeats 4000000 in
set_option maxRecDepth 100000 in
theorem mt_X2_isLetter (l : Launch) (dC : Nat → ClassId) (dI : Nat → Nat → Nat) (cA : ClassId) (sz : Nat) (y0 : Nat) (q1 : Nat) (q2 : Nat) (q3 : Nat) (q4 : Nat) (q5 : Nat) (rn : Nat) (tv : Int32) (sf : Nat → Int32) (lf : Nat → Int32) (mn : Int32) (rf : Nat → Int32) (nf : Nat → Int32) (ct : Int32) (il : Int32) (gf : Nat → Int32) (v : Int32) : Met l yX2_isLetter wsX2_isLetter mt_X2_isLetter_rm (va_Pc [.ref y0, .int v] (gB (dC, dI) [(cA, .int)] [(y0, .inr (2, [.int tv, .int (nI rn), .ref q1, .ref q2, .int mn, .ref q3, .ref q4, .int ct, .int il, .ref q5])), (q1, .inl (cA, (2, .inl sf))), (q2, .inl (cA, (60, .inl lf))), (q3, .inl (cA, (320, .inl rf))), (q4, .inl (cA, (320, .inl nf))), (q5, .inl (cA, (6, .inl gf)))] sz)) (gR (some (.int (if v = 0 then 0 else inI v (1 - nI rn) (nI rn - 1))))) 0 0 (fun _ => False) := by
  refine g_ofR (cc := cX2_isLetter) (maxL := 2) (ret := (some .boolean)) (by decide) rfl (Nat.le_of_ble_eq_true rfl) (fun p e s m below meth c ls hx hb hr hml hts hown hlocks hP hK hl hD => ?_)
  have hS : va_S (fun _ => True) s.heap s.heap [] := va_S.rf
  have hl : lv_has ls 2 [(0, .ref y0), (1, .int v)] := hl
  refine lv_iload_n hx hb dX2_isLetter_0 rfl (lv_at hl 1 rfl) ?_
  refine lv_if_eq (tgt := 27) hx hb dX2_isLetter_1 (by decide) (fun c1 => ?_) (fun c1 => ?_)
  · refine lv_iconst (v := 0) hx hb dX2_isLetter_27 (by decide) ?_
    exact g_endRz hx hb hr hlocks dX2_isLetter_28 (by decide) (by first | (rw [if_pos c1]; done) | (rw [if_neg c1]; first | exact c20.symm | exact (in_one c20).symm))
  · refine lv_iload_n hx hb dX2_isLetter_4 rfl (lv_at hl 1 rfl) ?_
    refine lv_iconst (v := 1) hx hb dX2_isLetter_5 (by decide) ?_
    refine lv_aload_n hx hb dX2_isLetter_6 rfl (lv_at hl 0 rfl) ?_
    refine va_get (D := (dC, dI)) (ci := 2) (v := .int (nI rn)) (C := RX2) (T := TX2) (N := 10) hx hb hts (in_X2_isLetter_2) hown hK hP 0 rfl rfl 1 (by decide) (hts (.fieldLink RX2 9 "BraidWordsModel" "ropes" "I") (List.mem_of_getElem? (i := 1) rfl)) (fun _ h9 => h9) rfl dX2_isLetter_7 ?_
    refine lv_isub hx hb dX2_isLetter_10 ?_
    refine lv_aload_n hx hb dX2_isLetter_11 rfl (lv_at hl 0 rfl) ?_
    refine va_get (D := (dC, dI)) (ci := 2) (v := .int (nI rn)) (C := RX2) (T := TX2) (N := 10) hx hb hts (in_X2_isLetter_2) hown hK hP 0 rfl rfl 1 (by decide) (hts (.fieldLink RX2 9 "BraidWordsModel" "ropes" "I") (List.mem_of_getElem? (i := 1) rfl)) (fun _ h9 => h9) rfl dX2_isLetter_12 ?_
    refine lv_iconst (v := 1) hx hb dX2_isLetter_15 (by decide) ?_
    refine lv_isub hx hb dX2_isLetter_16 ?_
    refine g_RSi (As := [.int v, .int (1 - (nI rn)), .int ((nI rn) - 1)]) (rest := []) ⟨hx, hb, hml, hown, hts⟩ (mt_X2_isIn l dC dI cA s.heap.size v (1 - (nI rn)) ((nI rn) - 1)) (va_cwS 3 hts gX2_isLetter_X2_isIn rfl rfl rfl hdX2_isIn ⟨Nat.le_of_ble_eq_true rfl, Nat.le_of_ble_eq_true rfl⟩) hP hK hD [] (by decide) rfl rfl hl.1 rfl (Nat.le_of_ble_eq_true rfl) dX2_isLetter_17 (Nat.zero_le _) (Nat.zero_le _) ?_
    refine lv_if_eq (tgt := 27) hx hb dX2_isLetter_20 (by decide) (fun c20 => ?_) (fun c20 => ?_)
    · refine lv_iconst (v := 0) hx hb dX2_isLetter_27 (by decide) ?_
      exact g_endRz hx hb hr hlocks dX2_isLetter_28 (by decide) (by first | (rw [if_pos c1]; done) | (rw [if_neg c1]; first | exact c20.symm | exact (in_one c20).symm))
    · refine lv_iconst (v := 1) hx hb dX2_isLetter_23 (by decide) ?_
      refine lv_goto (tgt := 28) hx hb dX2_isLetter_24 (by decide) ?_
      exact g_endRz hx hb hr hlocks dX2_isLetter_28 (by decide) (by first | (rw [if_pos c1]; done) | (rw [if_neg c1]; first | exact c20.symm | exact (in_one c20).symm))

abbrev mt_X2_isRope_rm : Room := { frames := 1, cells := 0, slots := 0, locals := 22 }
set_option maxHeartbeats 4000000 in
set_option maxRecDepth 100000 in
theorem mt_X2_isRope (l : Launch) (dC : Nat → ClassId) (dI : Nat → Nat → Nat) (cA : ClassId) (sz : Nat) (y0 : Nat) (q1 : Nat) (q2 : Nat) (q3 : Nat) (q4 : Nat) (q5 : Nat) (rn : Nat) (tv : Int32) (sf : Nat → Int32) (lf : Nat → Int32) (mn : Int32) (rf : Nat → Int32) (nf : Nat → Int32) (ct : Int32) (il : Int32) (gf : Nat → Int32) (v : Int32) : Met l yX2_isRope wsX2_isRope mt_X2_isRope_rm (va_Pc [.ref y0, .int v] (gB (dC, dI) [(cA, .int)] [(y0, .inr (2, [.int tv, .int (nI rn), .ref q1, .ref q2, .int mn, .ref q3, .ref q4, .int ct, .int il, .ref q5])), (q1, .inl (cA, (2, .inl sf))), (q2, .inl (cA, (60, .inl lf))), (q3, .inl (cA, (320, .inl rf))), (q4, .inl (cA, (320, .inl nf))), (q5, .inl (cA, (6, .inl gf)))] sz)) (gR (some (.int (inI v 0 (nI rn - 1))))) 0 0 (fun _ => False) := by
  refine g_ofR (cc := cX2_isRope) (maxL := 2) (ret := (some .boolean)) (by decide) rfl (Nat.le_of_ble_eq_true rfl) (fun p e s m below meth c ls hx hb hr hml hts hown hlocks hP hK hl hD => ?_)
  have hS : va_S (fun _ => True) s.heap s.heap [] := va_S.rf
  have hl : lv_has ls 2 [(0, .ref y0), (1, .int v)] := hl
  refine lv_iload_n hx hb dX2_isRope_0 rfl (lv_at hl 1 rfl) ?_
  refine lv_iconst (v := 0) hx hb dX2_isRope_1 (by decide) ?_
  refine lv_aload_n hx hb dX2_isRope_2 rfl (lv_at hl 0 rfl) ?_
  refine va_get (D := (dC, dI)) (ci := 2) (v := .int (nI rn)) (C := RX2) (T := TX2) (N := 10) hx hb hts (in_X2_isRope_2) hown hK hP 0 rfl rfl 1 (by decide) (hts (.fieldLink RX2 9 "BraidWordsModel" "ropes" "I") (List.mem_of_getElem? (i := 1) rfl)) (fun _ h9 => h9) rfl dX2_isRope_3 ?_
  refine lv_iconst (v := 1) hx hb dX2_isRope_6 (by decide) ?_
  refine lv_isub hx hb dX2_isRope_7 ?_
  refine g_RSi (As := [.int v, .int 0, .int ((nI rn) - 1)]) (rest := []) ⟨hx, hb, hml, hown, hts⟩ (mt_X2_isIn l dC dI cA s.heap.size v 0 ((nI rn) - 1)) (va_cwS 3 hts gX2_isRope_X2_isIn rfl rfl rfl hdX2_isIn ⟨Nat.le_of_ble_eq_true rfl, Nat.le_of_ble_eq_true rfl⟩) hP hK hD [] (by decide) rfl rfl hl.1 rfl (Nat.le_of_ble_eq_true rfl) dX2_isRope_8 (Nat.zero_le _) (Nat.zero_le _) ?_
  exact g_endRz hx hb hr hlocks dX2_isRope_11 (by unfold inI; split <;> decide) rfl

abbrev mt_X2_no_rm : Room := { frames := 0, cells := 0, slots := 0, locals := 0 }
set_option maxHeartbeats 4000000 in
set_option maxRecDepth 100000 in
theorem mt_X2_no (l : Launch) (dC : Nat → ClassId) (dI : Nat → Nat → Nat) (cA : ClassId) (sz : Nat) (y0 : Nat) (q1 : Nat) (q2 : Nat) (q3 : Nat) (q4 : Nat) (q5 : Nat) (rn : Nat) (tv : Int32) (sf : Nat → Int32) (lf : Nat → Int32) (mn : Int32) (rf : Nat → Int32) (nf : Nat → Int32) (ct : Int32) (il : Int32) (gf : Nat → Int32) (x : Int32) : Met l yX2_no wsX2_no mt_X2_no_rm (va_Pc [.ref y0, .int x] (gB (dC, dI) [(cA, .int)] [(y0, .inr (2, [.int tv, .int (nI rn), .ref q1, .ref q2, .int mn, .ref q3, .ref q4, .int ct, .int il, .ref q5])), (q1, .inl (cA, (2, .inl sf))), (q2, .inl (cA, (60, .inl lf))), (q3, .inl (cA, (320, .inl rf))), (q4, .inl (cA, (320, .inl nf))), (q5, .inl (cA, (6, .inl gf)))] sz)) (gM (dC, dI) (some (.int 0)) (fun u : Unit => True) (fun u : Unit => [(y0, .inr (2, [.int x, .int (nI rn), .ref q1, .ref q2, .int mn, .ref q3, .ref q4, .int ct, .int il, .ref q5])), (q1, .inl (cA, (2, .inl sf))), (q2, .inl (cA, (60, .inl lf))), (q3, .inl (cA, (320, .inl rf))), (q4, .inl (cA, (320, .inl nf))), (q5, .inl (cA, (6, .inl gf)))]) (va_A [(y0, .inr (2, [.int tv, .int (nI rn), .ref q1, .ref q2, .int mn, .ref q3, .ref q4, .int ct, .int il, .ref q5])), (q1, .inl (cA, (2, .inl sf))), (q2, .inl (cA, (60, .inl lf))), (q3, .inl (cA, (320, .inl rf))), (q4, .inl (cA, (320, .inl nf))), (q5, .inl (cA, (6, .inl gf)))] sz)) 0 0 (va_A [(y0, .inr (2, [.int tv, .int (nI rn), .ref q1, .ref q2, .int mn, .ref q3, .ref q4, .int ct, .int il, .ref q5])), (q1, .inl (cA, (2, .inl sf))), (q2, .inl (cA, (60, .inl lf))), (q3, .inl (cA, (320, .inl rf))), (q4, .inl (cA, (320, .inl nf))), (q5, .inl (cA, (6, .inl gf)))] sz) := by
  refine g_ofM (cc := cX2_no) (maxL := 2) (ret := (some .int)) (by decide) rfl (Nat.le_of_ble_eq_true rfl) (fun p e s m below meth c ls hx hb hr hml hts hown hlocks hP hK hl hin A hA hD hS => ?_)
  have hl : lv_has ls 2 [(0, .ref y0), (1, .int x)] := hl
  refine lv_aload_n hx hb dX2_no_0 rfl (lv_at hl 0 rfl) ?_
  refine lv_iload_n hx hb dX2_no_1 rfl (lv_at hl 1 rfl) ?_
  refine va_put (D := (dC, dI)) (ci := 2) (v := .int x) (ty := .int) (C := RX2) (T := TX2) (N := 10) hx hb hts (in_X2_no_2) tyX2 tyX2_ok nmX2 hown hK hP hD hS 0 rfl rfl 0 (by decide) (hts (.fieldLink RX2 29 "BraidWordsModel" "thrown" "I") (List.mem_of_getElem? (i := 1) rfl)) (fun _ h9 => h9) rfl (by decide +kernel) rfl rfl (Nat.le_of_ble_eq_true rfl) dX2_no_2 (fun H locs hP hD hS => ?_)
  have hP : va_P (dC, dI) vwCl [(y0, .inr (2, [.int x, .int (nI rn), .ref q1, .ref q2, .int mn, .ref q3, .ref q4, .int ct, .int il, .ref q5])), (q1, .inl (cA, (2, .inl sf))), (q2, .inl (cA, (60, .inl lf))), (q3, .inl (cA, (320, .inl rf))), (q4, .inl (cA, (320, .inl nf))), (q5, .inl (cA, (6, .inl gf)))] H := hP
  have hD : va_D A [(y0, .inr (2, [.int x, .int (nI rn), .ref q1, .ref q2, .int mn, .ref q3, .ref q4, .int ct, .int il, .ref q5])), (q1, .inl (cA, (2, .inl sf))), (q2, .inl (cA, (60, .inl lf))), (q3, .inl (cA, (320, .inl rf))), (q4, .inl (cA, (320, .inl nf))), (q5, .inl (cA, (6, .inl gf)))] := hD
  refine lv_iconst (v := 0) hx hb dX2_no_5 (by decide) ?_
  exact g_endMi hx hb hr hlocks hP hS dX2_no_6 () rfl rfl trivial

abbrev mt_X2_thrown_rm : Room := { frames := 0, cells := 0, slots := 0, locals := 0 }
set_option maxHeartbeats 4000000 in
set_option maxRecDepth 100000 in
theorem mt_X2_thrown (l : Launch) (dC : Nat → ClassId) (dI : Nat → Nat → Nat) (cA : ClassId) (sz : Nat) (y0 : Nat) (q1 : Nat) (q2 : Nat) (q3 : Nat) (q4 : Nat) (q5 : Nat) (rn : Nat) (tv : Int32) (sf : Nat → Int32) (lf : Nat → Int32) (mn : Int32) (rf : Nat → Int32) (nf : Nat → Int32) (ct : Int32) (il : Int32) (gf : Nat → Int32) : Met l yX2_thrown wsX2_thrown mt_X2_thrown_rm (va_Pc [.ref y0] (gB (dC, dI) [(cA, .int)] [(y0, .inr (2, [.int tv, .int (nI rn), .ref q1, .ref q2, .int mn, .ref q3, .ref q4, .int ct, .int il, .ref q5])), (q1, .inl (cA, (2, .inl sf))), (q2, .inl (cA, (60, .inl lf))), (q3, .inl (cA, (320, .inl rf))), (q4, .inl (cA, (320, .inl nf))), (q5, .inl (cA, (6, .inl gf)))] sz)) (gR (some (.int tv))) 0 0 (fun _ => False) := by
  refine g_ofR (cc := cX2_thrown) (maxL := 1) (ret := (some .int)) (by decide) rfl (Nat.le_of_ble_eq_true rfl) (fun p e s m below meth c ls hx hb hr hml hts hown hlocks hP hK hl hD => ?_)
  have hS : va_S (fun _ => True) s.heap s.heap [] := va_S.rf
  have hl : lv_has ls 1 [(0, .ref y0)] := hl
  refine lv_aload_n hx hb dX2_thrown_0 rfl (lv_at hl 0 rfl) ?_
  refine va_get (D := (dC, dI)) (ci := 2) (v := .int tv) (C := RX2) (T := TX2) (N := 10) hx hb hts (in_X2_thrown_2) hown hK hP 0 rfl rfl 0 (by decide) (hts (.fieldLink RX2 29 "BraidWordsModel" "thrown" "I") (List.mem_of_getElem? (i := 1) rfl)) (fun _ h9 => h9) rfl dX2_thrown_1 ?_
  exact g_endRi hx hb hr hlocks dX2_thrown_4 rfl

abbrev mt_X2_at_rm : Room := { frames := 0, cells := 0, slots := 0, locals := 0 }
set_option maxHeartbeats 4000000 in
set_option maxRecDepth 100000 in
theorem mt_X2_at (l : Launch) (dC : Nat → ClassId) (dI : Nat → Nat → Nat) (cA : ClassId) (sz : Nat) (y0 : Nat) (q1 : Nat) (q2 : Nat) (q3 : Nat) (q4 : Nat) (q5 : Nat) (rn : Nat) (tv : Int32) (sf : Nat → Int32) (lf : Nat → Int32) (mn : Int32) (rf : Nat → Int32) (nf : Nat → Int32) (ct : Int32) (il : Int32) (gf : Nat → Int32) (w : Nat) (k : Nat) (hw : w < 2) (hk : k < 30) : Met l yX2_at wsX2_at mt_X2_at_rm (va_Pc [.ref y0, .int (nI w), .int (nI k)] (gB (dC, dI) [(cA, .int)] [(y0, .inr (2, [.int tv, .int (nI rn), .ref q1, .ref q2, .int mn, .ref q3, .ref q4, .int ct, .int il, .ref q5])), (q1, .inl (cA, (2, .inl sf))), (q2, .inl (cA, (60, .inl lf))), (q3, .inl (cA, (320, .inl rf))), (q4, .inl (cA, (320, .inl nf))), (q5, .inl (cA, (6, .inl gf)))] sz)) (gR (some (.int (lf (30 * w + k))))) 0 0 (fun _ => False) := by
  refine g_ofR (cc := cX2_at) (maxL := 3) (ret := (some .int)) (by decide) rfl (Nat.le_of_ble_eq_true rfl) (fun p e s m below meth c ls hx hb hr hml hts hown hlocks hP hK hl hD => ?_)
  have hS : va_S (fun _ => True) s.heap s.heap [] := va_S.rf
  have hl : lv_has ls 3 [(0, .ref y0), (1, .int (nI w)), (2, .int (nI k))] := hl
  refine lv_aload_n hx hb dX2_at_0 rfl (lv_at hl 0 rfl) ?_
  refine va_get (D := (dC, dI)) (ci := 2) (v := .ref q2) (C := RX2) (T := TX2) (N := 10) hx hb hts (in_X2_at_2) hown hK hP 0 rfl rfl 3 (by decide) (hts (.fieldLink RX2 17 "BraidWordsModel" "letters" "[I") (List.mem_of_getElem? (i := 1) rfl)) (fun _ h9 => h9) rfl dX2_at_1 ?_
  refine lv_bipush (v := 30) hx hb dX2_at_4 (by decide) ?_
  refine lv_iload_n hx hb dX2_at_6 rfl (lv_at hl 1 rfl) ?_
  refine lv_imul hx hb dX2_at_7 ?_
  rw [show 30 * (nI w) = nI (30 * w) from pk_mul 30 w]
  refine lv_iload_n hx hb dX2_at_8 rfl (lv_at hl 2 rfl) ?_
  refine lv_iadd hx hb dX2_at_9 ?_
  rw [show (nI (30 * w)) + (nI k) = nI (30 * w + k) from nI_add (30 * w) k]
  refine va_iald hx hb hK hP 2 0 rfl rfl (vp_in_nI (by omega) (by decide)) dX2_at_10 ?_
  rw [show (nI (30 * w + k)).toNatClampNeg = 30 * w + k from nI_clamp (by omega)]
  exact g_endRi hx hb hr hlocks dX2_at_11 rfl

abbrev mt_X2_put_rm : Room := { frames := 0, cells := 0, slots := 0, locals := 0 }
set_option maxHeartbeats 4000000 in
set_option maxRecDepth 100000 in
theorem mt_X2_put (l : Launch) (dC : Nat → ClassId) (dI : Nat → Nat → Nat) (cA : ClassId) (sz : Nat) (y0 : Nat) (q1 : Nat) (q2 : Nat) (q3 : Nat) (q4 : Nat) (q5 : Nat) (rn : Nat) (tv : Int32) (sf : Nat → Int32) (lf : Nat → Int32) (mn : Int32) (rf : Nat → Int32) (nf : Nat → Int32) (ct : Int32) (il : Int32) (gf : Nat → Int32) (w : Nat) (k : Nat) (x : Int32) (hw : w < 2) (hk : k < 30) : Met l yX2_put wsX2_put mt_X2_put_rm (va_Pc [.ref y0, .int (nI w), .int (nI k), .int x] (gB (dC, dI) [(cA, .int)] [(y0, .inr (2, [.int tv, .int (nI rn), .ref q1, .ref q2, .int mn, .ref q3, .ref q4, .int ct, .int il, .ref q5])), (q1, .inl (cA, (2, .inl sf))), (q2, .inl (cA, (60, .inl lf))), (q3, .inl (cA, (320, .inl rf))), (q4, .inl (cA, (320, .inl nf))), (q5, .inl (cA, (6, .inl gf)))] sz)) (gM (dC, dI) none (fun u : Unit => True) (fun u : Unit => [(y0, .inr (2, [.int tv, .int (nI rn), .ref q1, .ref q2, .int mn, .ref q3, .ref q4, .int ct, .int il, .ref q5])), (q1, .inl (cA, (2, .inl sf))), (q2, .inl (cA, (60, .inl (upd lf (30 * w + k) x)))), (q3, .inl (cA, (320, .inl rf))), (q4, .inl (cA, (320, .inl nf))), (q5, .inl (cA, (6, .inl gf)))]) (va_A [(y0, .inr (2, [.int tv, .int (nI rn), .ref q1, .ref q2, .int mn, .ref q3, .ref q4, .int ct, .int il, .ref q5])), (q1, .inl (cA, (2, .inl sf))), (q2, .inl (cA, (60, .inl lf))), (q3, .inl (cA, (320, .inl rf))), (q4, .inl (cA, (320, .inl nf))), (q5, .inl (cA, (6, .inl gf)))] sz)) 0 0 (va_A [(y0, .inr (2, [.int tv, .int (nI rn), .ref q1, .ref q2, .int mn, .ref q3, .ref q4, .int ct, .int il, .ref q5])), (q1, .inl (cA, (2, .inl sf))), (q2, .inl (cA, (60, .inl lf))), (q3, .inl (cA, (320, .inl rf))), (q4, .inl (cA, (320, .inl nf))), (q5, .inl (cA, (6, .inl gf)))] sz) := by
  refine g_ofM (cc := cX2_put) (maxL := 4) (ret := none) (by decide) rfl (Nat.le_of_ble_eq_true rfl) (fun p e s m below meth c ls hx hb hr hml hts hown hlocks hP hK hl hin A hA hD hS => ?_)
  have hl : lv_has ls 4 [(0, .ref y0), (1, .int (nI w)), (2, .int (nI k)), (3, .int x)] := hl
  refine lv_aload_n hx hb dX2_put_0 rfl (lv_at hl 0 rfl) ?_
  refine va_get (D := (dC, dI)) (ci := 2) (v := .ref q2) (C := RX2) (T := TX2) (N := 10) hx hb hts (in_X2_put_2) hown hK hP 0 rfl rfl 3 (by decide) (hts (.fieldLink RX2 17 "BraidWordsModel" "letters" "[I") (List.mem_of_getElem? (i := 1) rfl)) (fun _ h9 => h9) rfl dX2_put_1 ?_
  refine lv_bipush (v := 30) hx hb dX2_put_4 (by decide) ?_
  refine lv_iload_n hx hb dX2_put_6 rfl (lv_at hl 1 rfl) ?_
  refine lv_imul hx hb dX2_put_7 ?_
  rw [show 30 * (nI w) = nI (30 * w) from pk_mul 30 w]
  refine lv_iload_n hx hb dX2_put_8 rfl (lv_at hl 2 rfl) ?_
  refine lv_iadd hx hb dX2_put_9 ?_
  rw [show (nI (30 * w)) + (nI k) = nI (30 * w + k) from nI_add (30 * w) k]
  refine lv_iload_n hx hb dX2_put_10 rfl (lv_at hl 3 rfl) ?_
  refine va_iast hx hb hK hP hD hS 2 0 rfl rfl (vp_in_nI (by omega) (by decide)) dX2_put_11 (fun H locs hP hD hS => ?_)
  rw [show (nI (30 * w + k)).toNatClampNeg = 30 * w + k from nI_clamp (by omega)] at hP hD
  have hP : va_P (dC, dI) vwCl [(y0, .inr (2, [.int tv, .int (nI rn), .ref q1, .ref q2, .int mn, .ref q3, .ref q4, .int ct, .int il, .ref q5])), (q1, .inl (cA, (2, .inl sf))), (q2, .inl (cA, (60, .inl (upd lf (30 * w + k) x)))), (q3, .inl (cA, (320, .inl rf))), (q4, .inl (cA, (320, .inl nf))), (q5, .inl (cA, (6, .inl gf)))] H := hP
  have hD : va_D A [(y0, .inr (2, [.int tv, .int (nI rn), .ref q1, .ref q2, .int mn, .ref q3, .ref q4, .int ct, .int il, .ref q5])), (q1, .inl (cA, (2, .inl sf))), (q2, .inl (cA, (60, .inl (upd lf (30 * w + k) x)))), (q3, .inl (cA, (320, .inl rf))), (q4, .inl (cA, (320, .inl nf))), (q5, .inl (cA, (6, .inl gf)))] := hD
  exact g_endMv hx hb hr hlocks hP hS dX2_put_12 () rfl trivial

abbrev mt_X2_take0_rm : Room := { frames := 1, cells := 0, slots := 0, locals := 22 }
set_option maxHeartbeats 4000000 in
set_option maxRecDepth 100000 in
theorem mt_X2_take0 (l : Launch) (dC : Nat → ClassId) (dI : Nat → Nat → Nat) (cA : ClassId) (sz : Nat) (y0 : Nat) (q1 : Nat) (q2 : Nat) (q3 : Nat) (q4 : Nat) (q5 : Nat) (rn : Nat) (tv : Int32) (sf : Nat → Int32) (lf : Nat → Int32) (rf : Nat → Int32) (nf : Nat → Int32) (ct : Int32) (il : Int32) (gf : Nat → Int32) (Vw : Nat → List Int32) (L : List Int32) (w : Nat) (hW : MW Vw sf lf) (hw : w < 2) (hR : MR L rf) (hk : L.length + (Vw w).length ≤ 320) : Met l yX2_take wsX2_take mt_X2_take0_rm (va_Pc [.ref y0, .int (nI w), .int 0] (gB (dC, dI) [(cA, .int)] [(y0, .inr (2, [.int tv, .int (nI rn), .ref q1, .ref q2, .int (nI L.length), .ref q3, .ref q4, .int ct, .int il, .ref q5])), (q1, .inl (cA, (2, .inl sf))), (q2, .inl (cA, (60, .inl lf))), (q3, .inl (cA, (320, .inl rf))), (q4, .inl (cA, (320, .inl nf))), (q5, .inl (cA, (6, .inl gf)))] sz)) (gM (dC, dI) none (fun u : (Nat → Int32) => MR (L ++ Vw w) u) (fun u : (Nat → Int32) => [(y0, .inr (2, [.int tv, .int (nI rn), .ref q1, .ref q2, .int (nI ((L ++ Vw w).length)), .ref q3, .ref q4, .int ct, .int il, .ref q5])), (q1, .inl (cA, (2, .inl sf))), (q2, .inl (cA, (60, .inl lf))), (q3, .inl (cA, (320, .inl u))), (q4, .inl (cA, (320, .inl nf))), (q5, .inl (cA, (6, .inl gf)))]) (va_A [(y0, .inr (2, [.int tv, .int (nI rn), .ref q1, .ref q2, .int (nI L.length), .ref q3, .ref q4, .int ct, .int il, .ref q5])), (q1, .inl (cA, (2, .inl sf))), (q2, .inl (cA, (60, .inl lf))), (q3, .inl (cA, (320, .inl rf))), (q4, .inl (cA, (320, .inl nf))), (q5, .inl (cA, (6, .inl gf)))] sz)) 0 0 (va_A [(y0, .inr (2, [.int tv, .int (nI rn), .ref q1, .ref q2, .int (nI L.length), .ref q3, .ref q4, .int ct, .int il, .ref q5])), (q1, .inl (cA, (2, .inl sf))), (q2, .inl (cA, (60, .inl lf))), (q3, .inl (cA, (320, .inl rf))), (q4, .inl (cA, (320, .inl nf))), (q5, .inl (cA, (6, .inl gf)))] sz) := by
  refine g_ofM (cc := cX2_take) (maxL := 4) (ret := none) (by decide) rfl (Nat.le_of_ble_eq_true rfl) (fun p e s m below meth c ls hx hb hr hml hts hown hlocks hP hK hl hin A hA hD hS => ?_)
  have hl : lv_has ls 4 [(0, .ref y0), (1, .int (nI w)), (2, .int 0)] := hl
  have hWl := (hW w hw).2.1
  refine lv_iconst (v := 0) hx hb dX2_take_0 (by decide) ?_
  refine lv_istore_n (lv' := [(3, .int 0), (0, .ref y0), (1, .int (nI w)), (2, .int 0)]) hx hb dX2_take_1 rfl hl (by decide) rfl (fun ls hl => ?_)
  have lp2 : ∀ (d : Nat) (k : Nat) (Lk : List Int32) (r1 : Nat → Int32) (hk9 : k ≤ (Vw w).length) (hLk : Lk = L ++ (Vw w).take k) (hRk : MR Lk r1), (Vw w).length - k < d → ∀ (H : Heap) (locs : List Loc), va_P (dC, dI) vwCl [(y0, .inr (2, [.int tv, .int (nI rn), .ref q1, .ref q2, .int (nI Lk.length), .ref q3, .ref q4, .int ct, .int il, .ref q5])), (q1, .inl (cA, (2, .inl sf))), (q2, .inl (cA, (60, .inl lf))), (q3, .inl (cA, (320, .inl r1))), (q4, .inl (cA, (320, .inl nf))), (q5, .inl (cA, (6, .inl gf)))] H → va_D A [(y0, .inr (2, [.int tv, .int (nI rn), .ref q1, .ref q2, .int (nI Lk.length), .ref q3, .ref q4, .int ct, .int il, .ref q5])), (q1, .inl (cA, (2, .inl sf))), (q2, .inl (cA, (60, .inl lf))), (q3, .inl (cA, (320, .inl r1))), (q4, .inl (cA, (320, .inl nf))), (q5, .inl (cA, (6, .inl gf)))] → va_S A s.heap H locs → ∀ ls : Array Slot, lv_has ls 4 [(3, .int (nI k)), (0, .ref y0), (1, .int (nI w)), (2, .int 0)] → W p l e mt_X2_take0_rm s m ([.ref y0, .int (nI w), .int 0] : List Value).toArray below meth c H locs 0 0 (MQ below (gM (dC, dI) none (fun u : (Nat → Int32) => MR (L ++ Vw w) u) (fun u : (Nat → Int32) => [(y0, .inr (2, [.int tv, .int (nI rn), .ref q1, .ref q2, .int (nI ((L ++ Vw w).length)), .ref q3, .ref q4, .int ct, .int il, .ref q5])), (q1, .inl (cA, (2, .inl sf))), (q2, .inl (cA, (60, .inl lf))), (q3, .inl (cA, (320, .inl u))), (q4, .inl (cA, (320, .inl nf))), (q5, .inl (cA, (6, .inl gf)))]) A) ([.ref y0, .int (nI w), .int 0] : List Value).toArray s 0 0 A) (F0 m 2 ls []) := by
    intro d
    induction d with
    | zero => intro k Lk r1 hk9 hLk hRk hd; exact absurd hd (Nat.not_lt_zero _)
    | succ d ih2 =>
      intro k Lk r1 hk9 hLk hRk hd H locs hP hD hS ls hl
      have hlk : Lk.length = L.length + k := by rw [hLk]; simp [turnL_len]; omega
      refine lv_iload_n hx hb dX2_take_2 rfl (lv_at hl 0 rfl) ?_
      refine lv_aload_n hx hb dX2_take_3 rfl (lv_at hl 1 rfl) ?_
      refine va_get (D := (dC, dI)) (ci := 2) (v := .ref q1) (C := RX2) (T := TX2) (N := 10) hx hb hts (in_X2_take_2) hown hK hP 0 rfl rfl 2 (by decide) (hts (.fieldLink RX2 13 "BraidWordsModel" "size" "[I") (List.mem_of_getElem? (i := 1) rfl)) (fun _ h9 => h9) rfl dX2_take_4 ?_
      refine lv_iload_n hx hb dX2_take_7 rfl (lv_at hl 2 rfl) ?_
      refine va_iald hx hb hK hP 1 0 rfl rfl (vp_in_nI (by omega) (by decide)) dX2_take_8 ?_
      rw [show (nI w).toNatClampNeg = w from nI_clamp (by omega)]
      rw [(hW w (by omega)).1]
      refine lv_icmp_ge (tgt := 66) hx hb dX2_take_9 (by decide) (fun c9 => ?_) (fun c9 => ?_)
      · have c9 : ((Vw w).length) ≤ k := g_geT k ((Vw w).length) (by omega) (by omega) c9
        obtain rfl : Lk = L ++ Vw w := by rw [hLk, List.take_of_length_le (by first | omega | (rw [turnL_len]; omega))]
        exact g_endMv hx hb hr hlocks hP hS dX2_take_66 r1 rfl hRk
      · have c9 : k < ((Vw w).length) := g_geF k ((Vw w).length) (by omega) (by omega) c9
        refine lv_aload_n hx hb dX2_take_12 rfl (lv_at hl 1 rfl) ?_
        refine va_get (D := (dC, dI)) (ci := 2) (v := .ref q3) (C := RX2) (T := TX2) (N := 10) hx hb hts (in_X2_take_2) hown hK hP 0 rfl rfl 5 (by decide) (hts (.fieldLink RX2 20 "BraidWordsModel" "row" "[I") (List.mem_of_getElem? (i := 2) rfl)) (fun _ h9 => h9) rfl dX2_take_13 ?_
        refine lv_aload_n hx hb dX2_take_16 rfl (lv_at hl 1 rfl) ?_
        refine va_get (D := (dC, dI)) (ci := 2) (v := .int (nI Lk.length)) (C := RX2) (T := TX2) (N := 10) hx hb hts (in_X2_take_2) hown hK hP 0 rfl rfl 4 (by decide) (hts (.fieldLink RX2 36 "BraidWordsModel" "many" "I") (List.mem_of_getElem? (i := 3) rfl)) (fun _ h9 => h9) rfl dX2_take_17 ?_
        refine lv_iload_n hx hb dX2_take_20 rfl (lv_at hl 3 rfl) ?_
        refine lv_if_eq (tgt := 43) hx hb dX2_take_21 (by decide) (fun c21 => ?_) (fun c21 => ?_)
        · have c21 : 0 = 0 := g_eqT 0 0 (by omega) (by omega) c21
          refine lv_aload_n hx hb dX2_take_43 rfl (lv_at hl 1 rfl) ?_
          refine lv_iload_n hx hb dX2_take_44 rfl (lv_at hl 2 rfl) ?_
          refine lv_iload_n hx hb dX2_take_45 rfl (lv_at hl 0 rfl) ?_
          refine g_RVi (As := [.int (nI w), .int (nI k)]) (rest := [.int (nI Lk.length), .ref q3]) ⟨hx, hb, hml, hown, hts⟩ (mt_X2_at l dC dI cA H.size y0 q1 q2 q3 q4 q5 rn tv sf lf (nI Lk.length) r1 nf ct il gf w k (by first | omega | (simp only [List.length_append, List.length_cons, List.length_nil, List.length_set, turnL_len]; omega)) (by first | omega | (simp only [List.length_append, List.length_cons, List.length_nil, List.length_set, turnL_len]; omega))) (cwV 2 hts gX2_take_X2_at rfl rfl rfl hdX2_at ⟨Nat.le_of_ble_eq_true rfl, Nat.le_of_ble_eq_true rfl⟩) hP hK hD [0, 1, 2, 3, 4, 5] (by decide) rfl (va_recv hK hP (ci := 2) (q0 := 0) rfl rfl) rfl hl.1 rfl (Nat.le_of_ble_eq_true rfl) dX2_take_46 (Nat.zero_le _) (Nat.zero_le _) ?_
          rw [(hW w (by omega)).2.2 k (by omega)]
          refine va_iast hx hb hK hP hD hS 3 0 rfl rfl (vp_in_nI (by omega) (by decide)) dX2_take_49 (fun H locs hP hD hS => ?_)
          rw [show (nI Lk.length).toNatClampNeg = Lk.length from nI_clamp (by omega)] at hP hD
          have hP : va_P (dC, dI) vwCl [(y0, .inr (2, [.int tv, .int (nI rn), .ref q1, .ref q2, .int (nI Lk.length), .ref q3, .ref q4, .int ct, .int il, .ref q5])), (q1, .inl (cA, (2, .inl sf))), (q2, .inl (cA, (60, .inl lf))), (q3, .inl (cA, (320, .inl (upd r1 Lk.length (atL (Vw w) k))))), (q4, .inl (cA, (320, .inl nf))), (q5, .inl (cA, (6, .inl gf)))] H := hP
          have hD : va_D A [(y0, .inr (2, [.int tv, .int (nI rn), .ref q1, .ref q2, .int (nI Lk.length), .ref q3, .ref q4, .int ct, .int il, .ref q5])), (q1, .inl (cA, (2, .inl sf))), (q2, .inl (cA, (60, .inl lf))), (q3, .inl (cA, (320, .inl (upd r1 Lk.length (atL (Vw w) k))))), (q4, .inl (cA, (320, .inl nf))), (q5, .inl (cA, (6, .inl gf)))] := hD
          refine lv_aload_n hx hb dX2_take_50 rfl (lv_at hl 1 rfl) ?_
          refine lv_dup hx hb dX2_take_51 rfl ?_
          refine va_get (D := (dC, dI)) (ci := 2) (v := .int (nI Lk.length)) (C := RX2) (T := TX2) (N := 10) hx hb hts (in_X2_take_2) hown hK hP 0 rfl rfl 4 (by decide) (hts (.fieldLink RX2 36 "BraidWordsModel" "many" "I") (List.mem_of_getElem? (i := 3) rfl)) (fun _ h9 => h9) rfl dX2_take_52 ?_
          refine lv_iconst (v := 1) hx hb dX2_take_55 (by decide) ?_
          refine lv_iadd hx hb dX2_take_56 ?_
          rw [show (nI Lk.length) + 1 = nI (Lk.length + 1) from nI_add Lk.length 1]
          refine va_put (D := (dC, dI)) (ci := 2) (v := .int (nI (Lk.length + 1))) (ty := .int) (C := RX2) (T := TX2) (N := 10) hx hb hts (in_X2_take_2) tyX2 tyX2_ok nmX2 hown hK hP hD hS 0 rfl rfl 4 (by decide) (hts (.fieldLink RX2 36 "BraidWordsModel" "many" "I") (List.mem_of_getElem? (i := 3) rfl)) (fun _ h9 => h9) rfl (by decide +kernel) rfl rfl (Nat.le_of_ble_eq_true rfl) dX2_take_57 (fun H locs hP hD hS => ?_)
          have hP : va_P (dC, dI) vwCl [(y0, .inr (2, [.int tv, .int (nI rn), .ref q1, .ref q2, .int (nI (Lk.length + 1)), .ref q3, .ref q4, .int ct, .int il, .ref q5])), (q1, .inl (cA, (2, .inl sf))), (q2, .inl (cA, (60, .inl lf))), (q3, .inl (cA, (320, .inl (upd r1 Lk.length (atL (Vw w) k))))), (q4, .inl (cA, (320, .inl nf))), (q5, .inl (cA, (6, .inl gf)))] H := hP
          have hD : va_D A [(y0, .inr (2, [.int tv, .int (nI rn), .ref q1, .ref q2, .int (nI (Lk.length + 1)), .ref q3, .ref q4, .int ct, .int il, .ref q5])), (q1, .inl (cA, (2, .inl sf))), (q2, .inl (cA, (60, .inl lf))), (q3, .inl (cA, (320, .inl (upd r1 Lk.length (atL (Vw w) k))))), (q4, .inl (cA, (320, .inl nf))), (q5, .inl (cA, (6, .inl gf)))] := hD
          refine lv_iinc (v := nI (k + 1)) (lv' := [(3, .int (nI (k + 1))), (0, .ref y0), (1, .int (nI w)), (2, .int 0)]) hx hb dX2_take_60 hl (k := 0) rfl (g_inc _) (by decide) rfl (fun ls hl => ?_)
          refine lv_goto (tgt := 2) hx hb dX2_take_63 (by decide) ?_
          rw [show Lk.length + 1 = (Lk ++ [atL (Vw w) k]).length from len_snoc.symm] at hP hD
          exact ih2 (k + 1) (Lk ++ [atL (Vw w) k]) (upd r1 Lk.length (atL (Vw w) k)) (by omega) (by rw [hLk, List.append_assoc, take_snoc (by omega)]) (MR_push hRk (by omega)) (by omega) _ _ hP hD hS _ (lv_sub hl [0, 1, 2, 3] rfl)
        · exact absurd (by decide) c21
  exact lp2 (((Vw w).length - 0) + 1) 0 L rf (Nat.zero_le _) (by simp) hR (Nat.lt_succ_self _) _ _ hP hD hS _ (lv_sub hl [0, 1, 2, 3] rfl)

abbrev mt_X2_take1_rm : Room := { frames := 1, cells := 0, slots := 0, locals := 22 }
set_option maxHeartbeats 4000000 in
set_option maxRecDepth 100000 in
theorem mt_X2_take1 (l : Launch) (dC : Nat → ClassId) (dI : Nat → Nat → Nat) (cA : ClassId) (sz : Nat) (y0 : Nat) (q1 : Nat) (q2 : Nat) (q3 : Nat) (q4 : Nat) (q5 : Nat) (rn : Nat) (tv : Int32) (sf : Nat → Int32) (lf : Nat → Int32) (rf : Nat → Int32) (nf : Nat → Int32) (ct : Int32) (il : Int32) (gf : Nat → Int32) (Vw : Nat → List Int32) (L : List Int32) (w : Nat) (hW : MW Vw sf lf) (hw : w < 2) (hR : MR L rf) (hk : L.length + (Vw w).length ≤ 320) : Met l yX2_take wsX2_take mt_X2_take1_rm (va_Pc [.ref y0, .int (nI w), .int 1] (gB (dC, dI) [(cA, .int)] [(y0, .inr (2, [.int tv, .int (nI rn), .ref q1, .ref q2, .int (nI L.length), .ref q3, .ref q4, .int ct, .int il, .ref q5])), (q1, .inl (cA, (2, .inl sf))), (q2, .inl (cA, (60, .inl lf))), (q3, .inl (cA, (320, .inl rf))), (q4, .inl (cA, (320, .inl nf))), (q5, .inl (cA, (6, .inl gf)))] sz)) (gM (dC, dI) none (fun u : (Nat → Int32) => MR (L ++ turnL (Vw w)) u) (fun u : (Nat → Int32) => [(y0, .inr (2, [.int tv, .int (nI rn), .ref q1, .ref q2, .int (nI ((L ++ turnL (Vw w)).length)), .ref q3, .ref q4, .int ct, .int il, .ref q5])), (q1, .inl (cA, (2, .inl sf))), (q2, .inl (cA, (60, .inl lf))), (q3, .inl (cA, (320, .inl u))), (q4, .inl (cA, (320, .inl nf))), (q5, .inl (cA, (6, .inl gf)))]) (va_A [(y0, .inr (2, [.int tv, .int (nI rn), .ref q1, .ref q2, .int (nI L.length), .ref q3, .ref q4, .int ct, .int il, .ref q5])), (q1, .inl (cA, (2, .inl sf))), (q2, .inl (cA, (60, .inl lf))), (q3, .inl (cA, (320, .inl rf))), (q4, .inl (cA, (320, .inl nf))), (q5, .inl (cA, (6, .inl gf)))] sz)) 0 0 (va_A [(y0, .inr (2, [.int tv, .int (nI rn), .ref q1, .ref q2, .int (nI L.length), .ref q3, .ref q4, .int ct, .int il, .ref q5])), (q1, .inl (cA, (2, .inl sf))), (q2, .inl (cA, (60, .inl lf))), (q3, .inl (cA, (320, .inl rf))), (q4, .inl (cA, (320, .inl nf))), (q5, .inl (cA, (6, .inl gf)))] sz) := by
  refine g_ofM (cc := cX2_take) (maxL := 4) (ret := none) (by decide) rfl (Nat.le_of_ble_eq_true rfl) (fun p e s m below meth c ls hx hb hr hml hts hown hlocks hP hK hl hin A hA hD hS => ?_)
  have hl : lv_has ls 4 [(0, .ref y0), (1, .int (nI w)), (2, .int 1)] := hl
  have hWl := (hW w hw).2.1
  refine lv_iconst (v := 0) hx hb dX2_take_0 (by decide) ?_
  refine lv_istore_n (lv' := [(3, .int 0), (0, .ref y0), (1, .int (nI w)), (2, .int 1)]) hx hb dX2_take_1 rfl hl (by decide) rfl (fun ls hl => ?_)
  have lp2 : ∀ (d : Nat) (k : Nat) (Lk : List Int32) (r1 : Nat → Int32) (hk9 : k ≤ (Vw w).length) (hLk : Lk = L ++ (turnL (Vw w)).take k) (hRk : MR Lk r1), (Vw w).length - k < d → ∀ (H : Heap) (locs : List Loc), va_P (dC, dI) vwCl [(y0, .inr (2, [.int tv, .int (nI rn), .ref q1, .ref q2, .int (nI Lk.length), .ref q3, .ref q4, .int ct, .int il, .ref q5])), (q1, .inl (cA, (2, .inl sf))), (q2, .inl (cA, (60, .inl lf))), (q3, .inl (cA, (320, .inl r1))), (q4, .inl (cA, (320, .inl nf))), (q5, .inl (cA, (6, .inl gf)))] H → va_D A [(y0, .inr (2, [.int tv, .int (nI rn), .ref q1, .ref q2, .int (nI Lk.length), .ref q3, .ref q4, .int ct, .int il, .ref q5])), (q1, .inl (cA, (2, .inl sf))), (q2, .inl (cA, (60, .inl lf))), (q3, .inl (cA, (320, .inl r1))), (q4, .inl (cA, (320, .inl nf))), (q5, .inl (cA, (6, .inl gf)))] → va_S A s.heap H locs → ∀ ls : Array Slot, lv_has ls 4 [(3, .int (nI k)), (0, .ref y0), (1, .int (nI w)), (2, .int 1)] → W p l e mt_X2_take1_rm s m ([.ref y0, .int (nI w), .int 1] : List Value).toArray below meth c H locs 0 0 (MQ below (gM (dC, dI) none (fun u : (Nat → Int32) => MR (L ++ turnL (Vw w)) u) (fun u : (Nat → Int32) => [(y0, .inr (2, [.int tv, .int (nI rn), .ref q1, .ref q2, .int (nI ((L ++ turnL (Vw w)).length)), .ref q3, .ref q4, .int ct, .int il, .ref q5])), (q1, .inl (cA, (2, .inl sf))), (q2, .inl (cA, (60, .inl lf))), (q3, .inl (cA, (320, .inl u))), (q4, .inl (cA, (320, .inl nf))), (q5, .inl (cA, (6, .inl gf)))]) A) ([.ref y0, .int (nI w), .int 1] : List Value).toArray s 0 0 A) (F0 m 2 ls []) := by
    intro d
    induction d with
    | zero => intro k Lk r1 hk9 hLk hRk hd; exact absurd hd (Nat.not_lt_zero _)
    | succ d ih2 =>
      intro k Lk r1 hk9 hLk hRk hd H locs hP hD hS ls hl
      have hlk : Lk.length = L.length + k := by rw [hLk]; simp [turnL_len]; omega
      refine lv_iload_n hx hb dX2_take_2 rfl (lv_at hl 0 rfl) ?_
      refine lv_aload_n hx hb dX2_take_3 rfl (lv_at hl 1 rfl) ?_
      refine va_get (D := (dC, dI)) (ci := 2) (v := .ref q1) (C := RX2) (T := TX2) (N := 10) hx hb hts (in_X2_take_2) hown hK hP 0 rfl rfl 2 (by decide) (hts (.fieldLink RX2 13 "BraidWordsModel" "size" "[I") (List.mem_of_getElem? (i := 1) rfl)) (fun _ h9 => h9) rfl dX2_take_4 ?_
      refine lv_iload_n hx hb dX2_take_7 rfl (lv_at hl 2 rfl) ?_
      refine va_iald hx hb hK hP 1 0 rfl rfl (vp_in_nI (by omega) (by decide)) dX2_take_8 ?_
      rw [show (nI w).toNatClampNeg = w from nI_clamp (by omega)]
      rw [(hW w (by omega)).1]
      refine lv_icmp_ge (tgt := 66) hx hb dX2_take_9 (by decide) (fun c9 => ?_) (fun c9 => ?_)
      · have c9 : ((Vw w).length) ≤ k := g_geT k ((Vw w).length) (by omega) (by omega) c9
        obtain rfl : Lk = L ++ turnL (Vw w) := by rw [hLk, List.take_of_length_le (by first | omega | (rw [turnL_len]; omega))]
        exact g_endMv hx hb hr hlocks hP hS dX2_take_66 r1 rfl hRk
      · have c9 : k < ((Vw w).length) := g_geF k ((Vw w).length) (by omega) (by omega) c9
        refine lv_aload_n hx hb dX2_take_12 rfl (lv_at hl 1 rfl) ?_
        refine va_get (D := (dC, dI)) (ci := 2) (v := .ref q3) (C := RX2) (T := TX2) (N := 10) hx hb hts (in_X2_take_2) hown hK hP 0 rfl rfl 5 (by decide) (hts (.fieldLink RX2 20 "BraidWordsModel" "row" "[I") (List.mem_of_getElem? (i := 2) rfl)) (fun _ h9 => h9) rfl dX2_take_13 ?_
        refine lv_aload_n hx hb dX2_take_16 rfl (lv_at hl 1 rfl) ?_
        refine va_get (D := (dC, dI)) (ci := 2) (v := .int (nI Lk.length)) (C := RX2) (T := TX2) (N := 10) hx hb hts (in_X2_take_2) hown hK hP 0 rfl rfl 4 (by decide) (hts (.fieldLink RX2 36 "BraidWordsModel" "many" "I") (List.mem_of_getElem? (i := 3) rfl)) (fun _ h9 => h9) rfl dX2_take_17 ?_
        refine lv_iload_n hx hb dX2_take_20 rfl (lv_at hl 3 rfl) ?_
        refine lv_if_eq (tgt := 43) hx hb dX2_take_21 (by decide) (fun c21 => ?_) (fun c21 => ?_)
        · exact absurd c21 (by decide)
        · have c21 : ¬ 1 = 0 := g_eqF 1 0 (by omega) (by omega) c21
          refine lv_aload_n hx hb dX2_take_24 rfl (lv_at hl 1 rfl) ?_
          refine lv_iload_n hx hb dX2_take_25 rfl (lv_at hl 2 rfl) ?_
          refine lv_aload_n hx hb dX2_take_26 rfl (lv_at hl 1 rfl) ?_
          refine va_get (D := (dC, dI)) (ci := 2) (v := .ref q1) (C := RX2) (T := TX2) (N := 10) hx hb hts (in_X2_take_2) hown hK hP 0 rfl rfl 2 (by decide) (hts (.fieldLink RX2 13 "BraidWordsModel" "size" "[I") (List.mem_of_getElem? (i := 1) rfl)) (fun _ h9 => h9) rfl dX2_take_27 ?_
          refine lv_iload_n hx hb dX2_take_30 rfl (lv_at hl 2 rfl) ?_
          refine va_iald hx hb hK hP 1 0 rfl rfl (vp_in_nI (by omega) (by decide)) dX2_take_31 ?_
          rw [show (nI w).toNatClampNeg = w from nI_clamp (by omega)]
          rw [(hW w (by omega)).1]
          refine lv_iconst (v := 1) hx hb dX2_take_32 (by decide) ?_
          refine lv_isub hx hb dX2_take_33 ?_
          rw [show nI (Vw w).length - 1 = nI ((Vw w).length - 1) from (plI_sub _).trans (plI_pred (by omega))]
          refine lv_iload_n hx hb dX2_take_34 rfl (lv_at hl 0 rfl) ?_
          refine lv_isub hx hb dX2_take_35 ?_
          rw [show nI ((Vw w).length - 1) - nI k = nI ((Vw w).length - 1 - k) from pk_sub (by omega)]
          refine g_RVi (As := [.int (nI w), .int (nI ((Vw w).length - 1 - k))]) (rest := [.int (nI Lk.length), .ref q3]) ⟨hx, hb, hml, hown, hts⟩ (mt_X2_at l dC dI cA H.size y0 q1 q2 q3 q4 q5 rn tv sf lf (nI Lk.length) r1 nf ct il gf w ((Vw w).length - 1 - k) (by first | omega | (simp only [List.length_append, List.length_cons, List.length_nil, List.length_set, turnL_len]; omega)) (by first | omega | (simp only [List.length_append, List.length_cons, List.length_nil, List.length_set, turnL_len]; omega))) (cwV 2 hts gX2_take_X2_at rfl rfl rfl hdX2_at ⟨Nat.le_of_ble_eq_true rfl, Nat.le_of_ble_eq_true rfl⟩) hP hK hD [0, 1, 2, 3, 4, 5] (by decide) rfl (va_recv hK hP (ci := 2) (q0 := 0) rfl rfl) rfl hl.1 rfl (Nat.le_of_ble_eq_true rfl) dX2_take_36 (Nat.zero_le _) (Nat.zero_le _) ?_
          rw [(hW w (by omega)).2.2 ((Vw w).length - 1 - k) (by omega)]
          refine lv_ineg hx hb dX2_take_39 ?_
          refine lv_goto (tgt := 49) hx hb dX2_take_40 (by decide) ?_
          refine va_iast hx hb hK hP hD hS 3 0 rfl rfl (vp_in_nI (by omega) (by decide)) dX2_take_49 (fun H locs hP hD hS => ?_)
          rw [show (nI Lk.length).toNatClampNeg = Lk.length from nI_clamp (by omega)] at hP hD
          have hP : va_P (dC, dI) vwCl [(y0, .inr (2, [.int tv, .int (nI rn), .ref q1, .ref q2, .int (nI Lk.length), .ref q3, .ref q4, .int ct, .int il, .ref q5])), (q1, .inl (cA, (2, .inl sf))), (q2, .inl (cA, (60, .inl lf))), (q3, .inl (cA, (320, .inl (upd r1 Lk.length (-(atL (Vw w) ((Vw w).length - 1 - k))))))), (q4, .inl (cA, (320, .inl nf))), (q5, .inl (cA, (6, .inl gf)))] H := hP
          have hD : va_D A [(y0, .inr (2, [.int tv, .int (nI rn), .ref q1, .ref q2, .int (nI Lk.length), .ref q3, .ref q4, .int ct, .int il, .ref q5])), (q1, .inl (cA, (2, .inl sf))), (q2, .inl (cA, (60, .inl lf))), (q3, .inl (cA, (320, .inl (upd r1 Lk.length (-(atL (Vw w) ((Vw w).length - 1 - k))))))), (q4, .inl (cA, (320, .inl nf))), (q5, .inl (cA, (6, .inl gf)))] := hD
          refine lv_aload_n hx hb dX2_take_50 rfl (lv_at hl 1 rfl) ?_
          refine lv_dup hx hb dX2_take_51 rfl ?_
          refine va_get (D := (dC, dI)) (ci := 2) (v := .int (nI Lk.length)) (C := RX2) (T := TX2) (N := 10) hx hb hts (in_X2_take_2) hown hK hP 0 rfl rfl 4 (by decide) (hts (.fieldLink RX2 36 "BraidWordsModel" "many" "I") (List.mem_of_getElem? (i := 3) rfl)) (fun _ h9 => h9) rfl dX2_take_52 ?_
          refine lv_iconst (v := 1) hx hb dX2_take_55 (by decide) ?_
          refine lv_iadd hx hb dX2_take_56 ?_
          rw [show (nI Lk.length) + 1 = nI (Lk.length + 1) from nI_add Lk.length 1]
          refine va_put (D := (dC, dI)) (ci := 2) (v := .int (nI (Lk.length + 1))) (ty := .int) (C := RX2) (T := TX2) (N := 10) hx hb hts (in_X2_take_2) tyX2 tyX2_ok nmX2 hown hK hP hD hS 0 rfl rfl 4 (by decide) (hts (.fieldLink RX2 36 "BraidWordsModel" "many" "I") (List.mem_of_getElem? (i := 3) rfl)) (fun _ h9 => h9) rfl (by decide +kernel) rfl rfl (Nat.le_of_ble_eq_true rfl) dX2_take_57 (fun H locs hP hD hS => ?_)
          have hP : va_P (dC, dI) vwCl [(y0, .inr (2, [.int tv, .int (nI rn), .ref q1, .ref q2, .int (nI (Lk.length + 1)), .ref q3, .ref q4, .int ct, .int il, .ref q5])), (q1, .inl (cA, (2, .inl sf))), (q2, .inl (cA, (60, .inl lf))), (q3, .inl (cA, (320, .inl (upd r1 Lk.length (-(atL (Vw w) ((Vw w).length - 1 - k))))))), (q4, .inl (cA, (320, .inl nf))), (q5, .inl (cA, (6, .inl gf)))] H := hP
          have hD : va_D A [(y0, .inr (2, [.int tv, .int (nI rn), .ref q1, .ref q2, .int (nI (Lk.length + 1)), .ref q3, .ref q4, .int ct, .int il, .ref q5])), (q1, .inl (cA, (2, .inl sf))), (q2, .inl (cA, (60, .inl lf))), (q3, .inl (cA, (320, .inl (upd r1 Lk.length (-(atL (Vw w) ((Vw w).length - 1 - k))))))), (q4, .inl (cA, (320, .inl nf))), (q5, .inl (cA, (6, .inl gf)))] := hD
          refine lv_iinc (v := nI (k + 1)) (lv' := [(3, .int (nI (k + 1))), (0, .ref y0), (1, .int (nI w)), (2, .int 1)]) hx hb dX2_take_60 hl (k := 0) rfl (g_inc _) (by decide) rfl (fun ls hl => ?_)
          refine lv_goto (tgt := 2) hx hb dX2_take_63 (by decide) ?_
          rw [show Lk.length + 1 = (Lk ++ [-atL (Vw w) ((Vw w).length - 1 - k)]).length from len_snoc.symm] at hP hD
          exact ih2 (k + 1) (Lk ++ [-atL (Vw w) ((Vw w).length - 1 - k)]) (upd r1 Lk.length (-(atL (Vw w) ((Vw w).length - 1 - k)))) (by omega) (by rw [hLk, turn_fwd (by omega)]) (MR_push hRk (by omega)) (by omega) _ _ hP hD hS _ (lv_sub hl [0, 1, 2, 3] rfl)
  exact lp2 (((Vw w).length - 0) + 1) 0 L rf (Nat.zero_le _) (by simp) hR (Nat.lt_succ_self _) _ _ hP hD hS _ (lv_sub hl [0, 1, 2, 3] rfl)

abbrev mt_X2_load_rm : Room := { frames := 2, cells := 0, slots := 0, locals := 45 }
set_option maxHeartbeats 4000000 in
set_option maxRecDepth 100000 in
theorem mt_X2_load (l : Launch) (dC : Nat → ClassId) (dI : Nat → Nat → Nat) (cA : ClassId) (sz : Nat) (y0 : Nat) (q1 : Nat) (q2 : Nat) (q3 : Nat) (q4 : Nat) (q5 : Nat) (rn : Nat) (tv : Int32) (sf : Nat → Int32) (lf : Nat → Int32) (mn : Int32) (rf : Nat → Int32) (nf : Nat → Int32) (ct : Int32) (il : Int32) (gf : Nat → Int32) (Vw : Nat → List Int32) (w : Nat) (hW : MW Vw sf lf) (hw : w < 2) : Met l yX2_load wsX2_load mt_X2_load_rm (va_Pc [.ref y0, .int (nI w)] (gB (dC, dI) [(cA, .int)] [(y0, .inr (2, [.int tv, .int (nI rn), .ref q1, .ref q2, .int mn, .ref q3, .ref q4, .int ct, .int il, .ref q5])), (q1, .inl (cA, (2, .inl sf))), (q2, .inl (cA, (60, .inl lf))), (q3, .inl (cA, (320, .inl rf))), (q4, .inl (cA, (320, .inl nf))), (q5, .inl (cA, (6, .inl gf)))] sz)) (gM (dC, dI) none (fun u : (Nat → Int32) => MR (Vw w) u) (fun u : (Nat → Int32) => [(y0, .inr (2, [.int tv, .int (nI rn), .ref q1, .ref q2, .int (nI ((Vw w).length)), .ref q3, .ref q4, .int ct, .int il, .ref q5])), (q1, .inl (cA, (2, .inl sf))), (q2, .inl (cA, (60, .inl lf))), (q3, .inl (cA, (320, .inl u))), (q4, .inl (cA, (320, .inl nf))), (q5, .inl (cA, (6, .inl gf)))]) (va_A [(y0, .inr (2, [.int tv, .int (nI rn), .ref q1, .ref q2, .int mn, .ref q3, .ref q4, .int ct, .int il, .ref q5])), (q1, .inl (cA, (2, .inl sf))), (q2, .inl (cA, (60, .inl lf))), (q3, .inl (cA, (320, .inl rf))), (q4, .inl (cA, (320, .inl nf))), (q5, .inl (cA, (6, .inl gf)))] sz)) 0 0 (va_A [(y0, .inr (2, [.int tv, .int (nI rn), .ref q1, .ref q2, .int mn, .ref q3, .ref q4, .int ct, .int il, .ref q5])), (q1, .inl (cA, (2, .inl sf))), (q2, .inl (cA, (60, .inl lf))), (q3, .inl (cA, (320, .inl rf))), (q4, .inl (cA, (320, .inl nf))), (q5, .inl (cA, (6, .inl gf)))] sz) := by
  refine g_ofM (cc := cX2_load) (maxL := 2) (ret := none) (by decide) rfl (Nat.le_of_ble_eq_true rfl) (fun p e s m below meth c ls hx hb hr hml hts hown hlocks hP hK hl hin A hA hD hS => ?_)
  have hl : lv_has ls 2 [(0, .ref y0), (1, .int (nI w))] := hl
  have hWl := (hW w hw).2.1
  refine lv_aload_n hx hb dX2_load_0 rfl (lv_at hl 0 rfl) ?_
  refine lv_iconst (v := 0) hx hb dX2_load_1 (by decide) ?_
  refine va_put (D := (dC, dI)) (ci := 2) (v := .int 0) (ty := .int) (C := RX2) (T := TX2) (N := 10) hx hb hts (in_X2_load_2) tyX2 tyX2_ok nmX2 hown hK hP hD hS 0 rfl rfl 4 (by decide) (hts (.fieldLink RX2 36 "BraidWordsModel" "many" "I") (List.mem_of_getElem? (i := 1) rfl)) (fun _ h9 => h9) rfl (by decide +kernel) rfl rfl (Nat.le_of_ble_eq_true rfl) dX2_load_2 (fun H locs hP hD hS => ?_)
  have hP : va_P (dC, dI) vwCl [(y0, .inr (2, [.int tv, .int (nI rn), .ref q1, .ref q2, .int 0, .ref q3, .ref q4, .int ct, .int il, .ref q5])), (q1, .inl (cA, (2, .inl sf))), (q2, .inl (cA, (60, .inl lf))), (q3, .inl (cA, (320, .inl rf))), (q4, .inl (cA, (320, .inl nf))), (q5, .inl (cA, (6, .inl gf)))] H := hP
  have hD : va_D A [(y0, .inr (2, [.int tv, .int (nI rn), .ref q1, .ref q2, .int 0, .ref q3, .ref q4, .int ct, .int il, .ref q5])), (q1, .inl (cA, (2, .inl sf))), (q2, .inl (cA, (60, .inl lf))), (q3, .inl (cA, (320, .inl rf))), (q4, .inl (cA, (320, .inl nf))), (q5, .inl (cA, (6, .inl gf)))] := hD
  have hP : va_P (dC, dI) vwCl [(y0, .inr (2, [.int tv, .int (nI rn), .ref q1, .ref q2, .int (nI (([] : List Int32).length)), .ref q3, .ref q4, .int ct, .int il, .ref q5])), (q1, .inl (cA, (2, .inl sf))), (q2, .inl (cA, (60, .inl lf))), (q3, .inl (cA, (320, .inl rf))), (q4, .inl (cA, (320, .inl nf))), (q5, .inl (cA, (6, .inl gf)))] H := hP
  have hD : va_D A [(y0, .inr (2, [.int tv, .int (nI rn), .ref q1, .ref q2, .int (nI (([] : List Int32).length)), .ref q3, .ref q4, .int ct, .int il, .ref q5])), (q1, .inl (cA, (2, .inl sf))), (q2, .inl (cA, (60, .inl lf))), (q3, .inl (cA, (320, .inl rf))), (q4, .inl (cA, (320, .inl nf))), (q5, .inl (cA, (6, .inl gf)))] := hD
  refine lv_aload_n hx hb dX2_load_5 rfl (lv_at hl 0 rfl) ?_
  refine lv_iload_n hx hb dX2_load_6 rfl (lv_at hl 1 rfl) ?_
  refine lv_iconst (v := 0) hx hb dX2_load_7 (by decide) ?_
  refine g_MVv (As := [.int (nI w), .int 0]) (rest := []) ⟨hx, hb, hml, hown, hts⟩ (mt_X2_take0 l dC dI cA H.size y0 q1 q2 q3 q4 q5 rn tv sf lf rf nf ct il gf Vw ([] : List Int32) w hW (by omega) MR_nil (by first | omega | (simp only [List.length_append, List.length_cons, List.length_nil, List.length_set, turnL_len]; omega))) (cwV 2 hts gX2_load_X2_take rfl rfl rfl hdX2_take ⟨Nat.le_of_ble_eq_true rfl, Nat.le_of_ble_eq_true rfl⟩) hP hK hD hS hA [0, 1, 2, 3, 4, 5] (by decide) rfl (va_recv hK hP (ci := 2) (q0 := 0) rfl rfl) rfl hl.1 rfl (Nat.le_of_ble_eq_true rfl) dX2_load_8 (Nat.zero_le _) (Nat.zero_le _) (fun u9 => [(y0, .inr (2, [.int tv, .int (nI rn), .ref q1, .ref q2, .int (nI ((([] : List Int32) ++ Vw w).length)), .ref q3, .ref q4, .int ct, .int il, .ref q5])), (q1, .inl (cA, (2, .inl sf))), (q2, .inl (cA, (60, .inl lf))), (q3, .inl (cA, (320, .inl u9))), (q4, .inl (cA, (320, .inl nf))), (q5, .inl (cA, (6, .inl gf)))]) (fun _ => rfl) (fun _ => rfl) (fun u H locs hw_2 hP hD hS => ?_)
  obtain ⟨r1_1, rfl⟩ : ∃ z, z = u := ⟨_, rfl⟩
  have hw_2 : MR (([] : List Int32) ++ Vw w) r1_1 := hw_2
  have hP : va_P (dC, dI) vwCl [(y0, .inr (2, [.int tv, .int (nI rn), .ref q1, .ref q2, .int (nI ((([] : List Int32) ++ Vw w).length)), .ref q3, .ref q4, .int ct, .int il, .ref q5])), (q1, .inl (cA, (2, .inl sf))), (q2, .inl (cA, (60, .inl lf))), (q3, .inl (cA, (320, .inl r1_1))), (q4, .inl (cA, (320, .inl nf))), (q5, .inl (cA, (6, .inl gf)))] H := hP
  have hD : va_D A [(y0, .inr (2, [.int tv, .int (nI rn), .ref q1, .ref q2, .int (nI ((([] : List Int32) ++ Vw w).length)), .ref q3, .ref q4, .int ct, .int il, .ref q5])), (q1, .inl (cA, (2, .inl sf))), (q2, .inl (cA, (60, .inl lf))), (q3, .inl (cA, (320, .inl r1_1))), (q4, .inl (cA, (320, .inl nf))), (q5, .inl (cA, (6, .inl gf)))] := hD
  exact g_endMv hx hb hr hlocks hP hS dX2_load_11 r1_1 rfl hw_2

abbrev mt_X2_loadBoth_rm : Room := { frames := 2, cells := 0, slots := 0, locals := 45 }
set_option maxHeartbeats 4000000 in
set_option maxRecDepth 100000 in
theorem mt_X2_loadBoth (l : Launch) (dC : Nat → ClassId) (dI : Nat → Nat → Nat) (cA : ClassId) (sz : Nat) (y0 : Nat) (q1 : Nat) (q2 : Nat) (q3 : Nat) (q4 : Nat) (q5 : Nat) (rn : Nat) (tv : Int32) (sf : Nat → Int32) (lf : Nat → Int32) (mn : Int32) (rf : Nat → Int32) (nf : Nat → Int32) (ct : Int32) (il : Int32) (gf : Nat → Int32) (Vw : Nat → List Int32) (hW : MW Vw sf lf) : Met l yX2_loadBoth wsX2_loadBoth mt_X2_loadBoth_rm (va_Pc [.ref y0] (gB (dC, dI) [(cA, .int)] [(y0, .inr (2, [.int tv, .int (nI rn), .ref q1, .ref q2, .int mn, .ref q3, .ref q4, .int ct, .int il, .ref q5])), (q1, .inl (cA, (2, .inl sf))), (q2, .inl (cA, (60, .inl lf))), (q3, .inl (cA, (320, .inl rf))), (q4, .inl (cA, (320, .inl nf))), (q5, .inl (cA, (6, .inl gf)))] sz)) (gM (dC, dI) none (fun u : (Nat → Int32) => MR (turnL (Vw 0) ++ Vw 1) u) (fun u : (Nat → Int32) => [(y0, .inr (2, [.int tv, .int (nI rn), .ref q1, .ref q2, .int (nI ((turnL (Vw 0) ++ Vw 1).length)), .ref q3, .ref q4, .int ct, .int il, .ref q5])), (q1, .inl (cA, (2, .inl sf))), (q2, .inl (cA, (60, .inl lf))), (q3, .inl (cA, (320, .inl u))), (q4, .inl (cA, (320, .inl nf))), (q5, .inl (cA, (6, .inl gf)))]) (va_A [(y0, .inr (2, [.int tv, .int (nI rn), .ref q1, .ref q2, .int mn, .ref q3, .ref q4, .int ct, .int il, .ref q5])), (q1, .inl (cA, (2, .inl sf))), (q2, .inl (cA, (60, .inl lf))), (q3, .inl (cA, (320, .inl rf))), (q4, .inl (cA, (320, .inl nf))), (q5, .inl (cA, (6, .inl gf)))] sz)) 0 0 (va_A [(y0, .inr (2, [.int tv, .int (nI rn), .ref q1, .ref q2, .int mn, .ref q3, .ref q4, .int ct, .int il, .ref q5])), (q1, .inl (cA, (2, .inl sf))), (q2, .inl (cA, (60, .inl lf))), (q3, .inl (cA, (320, .inl rf))), (q4, .inl (cA, (320, .inl nf))), (q5, .inl (cA, (6, .inl gf)))] sz) := by
  refine g_ofM (cc := cX2_loadBoth) (maxL := 1) (ret := none) (by decide) rfl (Nat.le_of_ble_eq_true rfl) (fun p e s m below meth c ls hx hb hr hml hts hown hlocks hP hK hl hin A hA hD hS => ?_)
  have hl : lv_has ls 1 [(0, .ref y0)] := hl
  have hW0 := (hW 0 (by omega)).2.1
  have hW1 := (hW 1 (by omega)).2.1
  refine lv_aload_n hx hb dX2_loadBoth_0 rfl (lv_at hl 0 rfl) ?_
  refine lv_iconst (v := 0) hx hb dX2_loadBoth_1 (by decide) ?_
  refine va_put (D := (dC, dI)) (ci := 2) (v := .int 0) (ty := .int) (C := RX2) (T := TX2) (N := 10) hx hb hts (in_X2_loadBoth_2) tyX2 tyX2_ok nmX2 hown hK hP hD hS 0 rfl rfl 4 (by decide) (hts (.fieldLink RX2 36 "BraidWordsModel" "many" "I") (List.mem_of_getElem? (i := 1) rfl)) (fun _ h9 => h9) rfl (by decide +kernel) rfl rfl (Nat.le_of_ble_eq_true rfl) dX2_loadBoth_2 (fun H locs hP hD hS => ?_)
  have hP : va_P (dC, dI) vwCl [(y0, .inr (2, [.int tv, .int (nI rn), .ref q1, .ref q2, .int 0, .ref q3, .ref q4, .int ct, .int il, .ref q5])), (q1, .inl (cA, (2, .inl sf))), (q2, .inl (cA, (60, .inl lf))), (q3, .inl (cA, (320, .inl rf))), (q4, .inl (cA, (320, .inl nf))), (q5, .inl (cA, (6, .inl gf)))] H := hP
  have hD : va_D A [(y0, .inr (2, [.int tv, .int (nI rn), .ref q1, .ref q2, .int 0, .ref q3, .ref q4, .int ct, .int il, .ref q5])), (q1, .inl (cA, (2, .inl sf))), (q2, .inl (cA, (60, .inl lf))), (q3, .inl (cA, (320, .inl rf))), (q4, .inl (cA, (320, .inl nf))), (q5, .inl (cA, (6, .inl gf)))] := hD
  have hP : va_P (dC, dI) vwCl [(y0, .inr (2, [.int tv, .int (nI rn), .ref q1, .ref q2, .int (nI (([] : List Int32).length)), .ref q3, .ref q4, .int ct, .int il, .ref q5])), (q1, .inl (cA, (2, .inl sf))), (q2, .inl (cA, (60, .inl lf))), (q3, .inl (cA, (320, .inl rf))), (q4, .inl (cA, (320, .inl nf))), (q5, .inl (cA, (6, .inl gf)))] H := hP
  have hD : va_D A [(y0, .inr (2, [.int tv, .int (nI rn), .ref q1, .ref q2, .int (nI (([] : List Int32).length)), .ref q3, .ref q4, .int ct, .int il, .ref q5])), (q1, .inl (cA, (2, .inl sf))), (q2, .inl (cA, (60, .inl lf))), (q3, .inl (cA, (320, .inl rf))), (q4, .inl (cA, (320, .inl nf))), (q5, .inl (cA, (6, .inl gf)))] := hD
  refine lv_aload_n hx hb dX2_loadBoth_5 rfl (lv_at hl 0 rfl) ?_
  refine lv_iconst (v := 0) hx hb dX2_loadBoth_6 (by decide) ?_
  refine lv_iconst (v := 1) hx hb dX2_loadBoth_7 (by decide) ?_
  refine g_MVv (As := [.int 0, .int 1]) (rest := []) ⟨hx, hb, hml, hown, hts⟩ (mt_X2_take1 l dC dI cA H.size y0 q1 q2 q3 q4 q5 rn tv sf lf rf nf ct il gf Vw ([] : List Int32) 0 hW (by omega) MR_nil (by first | omega | (simp only [List.length_append, List.length_cons, List.length_nil, List.length_set, turnL_len]; omega))) (cwV 2 hts gX2_loadBoth_X2_take rfl rfl rfl hdX2_take ⟨Nat.le_of_ble_eq_true rfl, Nat.le_of_ble_eq_true rfl⟩) hP hK hD hS hA [0, 1, 2, 3, 4, 5] (by decide) rfl (va_recv hK hP (ci := 2) (q0 := 0) rfl rfl) rfl hl.1 rfl (Nat.le_of_ble_eq_true rfl) dX2_loadBoth_8 (Nat.zero_le _) (Nat.zero_le _) (fun u9 => [(y0, .inr (2, [.int tv, .int (nI rn), .ref q1, .ref q2, .int (nI ((([] : List Int32) ++ turnL (Vw 0)).length)), .ref q3, .ref q4, .int ct, .int il, .ref q5])), (q1, .inl (cA, (2, .inl sf))), (q2, .inl (cA, (60, .inl lf))), (q3, .inl (cA, (320, .inl u9))), (q4, .inl (cA, (320, .inl nf))), (q5, .inl (cA, (6, .inl gf)))]) (fun _ => rfl) (fun _ => rfl) (fun u H locs hw_2 hP hD hS => ?_)
  obtain ⟨r1_1, rfl⟩ : ∃ z, z = u := ⟨_, rfl⟩
  have hw_2 : MR (([] : List Int32) ++ turnL (Vw 0)) r1_1 := hw_2
  have hP : va_P (dC, dI) vwCl [(y0, .inr (2, [.int tv, .int (nI rn), .ref q1, .ref q2, .int (nI ((([] : List Int32) ++ turnL (Vw 0)).length)), .ref q3, .ref q4, .int ct, .int il, .ref q5])), (q1, .inl (cA, (2, .inl sf))), (q2, .inl (cA, (60, .inl lf))), (q3, .inl (cA, (320, .inl r1_1))), (q4, .inl (cA, (320, .inl nf))), (q5, .inl (cA, (6, .inl gf)))] H := hP
  have hD : va_D A [(y0, .inr (2, [.int tv, .int (nI rn), .ref q1, .ref q2, .int (nI ((([] : List Int32) ++ turnL (Vw 0)).length)), .ref q3, .ref q4, .int ct, .int il, .ref q5])), (q1, .inl (cA, (2, .inl sf))), (q2, .inl (cA, (60, .inl lf))), (q3, .inl (cA, (320, .inl r1_1))), (q4, .inl (cA, (320, .inl nf))), (q5, .inl (cA, (6, .inl gf)))] := hD
  refine lv_aload_n hx hb dX2_loadBoth_11 rfl (lv_at hl 0 rfl) ?_
  refine lv_iconst (v := 1) hx hb dX2_loadBoth_12 (by decide) ?_
  refine lv_iconst (v := 0) hx hb dX2_loadBoth_13 (by decide) ?_
  refine g_MVv (As := [.int 1, .int 0]) (rest := []) ⟨hx, hb, hml, hown, hts⟩ (mt_X2_take0 l dC dI cA H.size y0 q1 q2 q3 q4 q5 rn tv sf lf r1_1 nf ct il gf Vw (([] : List Int32) ++ turnL (Vw 0)) 1 hW (by omega) hw_2 (by first | omega | (simp only [List.length_append, List.length_cons, List.length_nil, List.length_set, turnL_len]; omega))) (cwV 2 hts gX2_loadBoth_X2_take rfl rfl rfl hdX2_take ⟨Nat.le_of_ble_eq_true rfl, Nat.le_of_ble_eq_true rfl⟩) hP hK hD hS hA [0, 1, 2, 3, 4, 5] (by decide) rfl (va_recv hK hP (ci := 2) (q0 := 0) rfl rfl) rfl hl.1 rfl (Nat.le_of_ble_eq_true rfl) dX2_loadBoth_14 (Nat.zero_le _) (Nat.zero_le _) (fun u9 => [(y0, .inr (2, [.int tv, .int (nI rn), .ref q1, .ref q2, .int (nI (((([] : List Int32) ++ turnL (Vw 0)) ++ Vw 1).length)), .ref q3, .ref q4, .int ct, .int il, .ref q5])), (q1, .inl (cA, (2, .inl sf))), (q2, .inl (cA, (60, .inl lf))), (q3, .inl (cA, (320, .inl u9))), (q4, .inl (cA, (320, .inl nf))), (q5, .inl (cA, (6, .inl gf)))]) (fun _ => rfl) (fun _ => rfl) (fun u H locs hw_4 hP hD hS => ?_)
  obtain ⟨r1_3, rfl⟩ : ∃ z, z = u := ⟨_, rfl⟩
  have hw_4 : MR ((([] : List Int32) ++ turnL (Vw 0)) ++ Vw 1) r1_3 := hw_4
  have hP : va_P (dC, dI) vwCl [(y0, .inr (2, [.int tv, .int (nI rn), .ref q1, .ref q2, .int (nI (((([] : List Int32) ++ turnL (Vw 0)) ++ Vw 1).length)), .ref q3, .ref q4, .int ct, .int il, .ref q5])), (q1, .inl (cA, (2, .inl sf))), (q2, .inl (cA, (60, .inl lf))), (q3, .inl (cA, (320, .inl r1_3))), (q4, .inl (cA, (320, .inl nf))), (q5, .inl (cA, (6, .inl gf)))] H := hP
  have hD : va_D A [(y0, .inr (2, [.int tv, .int (nI rn), .ref q1, .ref q2, .int (nI (((([] : List Int32) ++ turnL (Vw 0)) ++ Vw 1).length)), .ref q3, .ref q4, .int ct, .int il, .ref q5])), (q1, .inl (cA, (2, .inl sf))), (q2, .inl (cA, (60, .inl lf))), (q3, .inl (cA, (320, .inl r1_3))), (q4, .inl (cA, (320, .inl nf))), (q5, .inl (cA, (6, .inl gf)))] := hD
  exact g_endMv hx hb hr hlocks hP hS dX2_loadBoth_17 r1_3 rfl hw_4

abbrev mt_X2_store_rm : Room := { frames := 1, cells := 0, slots := 0, locals := 23 }
set_option maxHeartbeats 4000000 in
set_option maxRecDepth 100000 in
theorem mt_X2_store (l : Launch) (dC : Nat → ClassId) (dI : Nat → Nat → Nat) (cA : ClassId) (sz : Nat) (y0 : Nat) (q1 : Nat) (q2 : Nat) (q3 : Nat) (q4 : Nat) (q5 : Nat) (rn : Nat) (tv : Int32) (sf : Nat → Int32) (lf : Nat → Int32) (rf : Nat → Int32) (nf : Nat → Int32) (ct : Int32) (il : Int32) (gf : Nat → Int32) (L : List Int32) (w : Nat) (hw : w < 2) (hR : MR L rf) (hk : L.length ≤ 30) : Met l yX2_store wsX2_store mt_X2_store_rm (va_Pc [.ref y0, .int (nI w)] (gB (dC, dI) [(cA, .int)] [(y0, .inr (2, [.int tv, .int (nI rn), .ref q1, .ref q2, .int (nI L.length), .ref q3, .ref q4, .int ct, .int il, .ref q5])), (q1, .inl (cA, (2, .inl sf))), (q2, .inl (cA, (60, .inl lf))), (q3, .inl (cA, (320, .inl rf))), (q4, .inl (cA, (320, .inl nf))), (q5, .inl (cA, (6, .inl gf)))] sz)) (gM (dC, dI) none (fun u : (Nat → Int32) × (Nat → Int32) => u.2 = upd sf w (nI L.length) ∧ (∀ i, i < L.length → u.1 (30 * w + i) = atL L i) ∧ ∀ j, (j < 30 * w ∨ 30 * w + 30 ≤ j) → u.1 j = lf j) (fun u : (Nat → Int32) × (Nat → Int32) => [(y0, .inr (2, [.int tv, .int (nI rn), .ref q1, .ref q2, .int (nI L.length), .ref q3, .ref q4, .int ct, .int il, .ref q5])), (q1, .inl (cA, (2, .inl u.2))), (q2, .inl (cA, (60, .inl u.1))), (q3, .inl (cA, (320, .inl rf))), (q4, .inl (cA, (320, .inl nf))), (q5, .inl (cA, (6, .inl gf)))]) (va_A [(y0, .inr (2, [.int tv, .int (nI rn), .ref q1, .ref q2, .int (nI L.length), .ref q3, .ref q4, .int ct, .int il, .ref q5])), (q1, .inl (cA, (2, .inl sf))), (q2, .inl (cA, (60, .inl lf))), (q3, .inl (cA, (320, .inl rf))), (q4, .inl (cA, (320, .inl nf))), (q5, .inl (cA, (6, .inl gf)))] sz)) 0 0 (va_A [(y0, .inr (2, [.int tv, .int (nI rn), .ref q1, .ref q2, .int (nI L.length), .ref q3, .ref q4, .int ct, .int il, .ref q5])), (q1, .inl (cA, (2, .inl sf))), (q2, .inl (cA, (60, .inl lf))), (q3, .inl (cA, (320, .inl rf))), (q4, .inl (cA, (320, .inl nf))), (q5, .inl (cA, (6, .inl gf)))] sz) := by
  refine g_ofM (cc := cX2_store) (maxL := 3) (ret := none) (by decide) rfl (Nat.le_of_ble_eq_true rfl) (fun p e s m below meth c ls hx hb hr hml hts hown hlocks hP hK hl hin A hA hD hS => ?_)
  have hl : lv_has ls 3 [(0, .ref y0), (1, .int (nI w))] := hl
  refine lv_iconst (v := 0) hx hb dX2_store_0 (by decide) ?_
  refine lv_istore_n (lv' := [(2, .int 0), (0, .ref y0), (1, .int (nI w))]) hx hb dX2_store_1 rfl hl (by decide) rfl (fun ls hl => ?_)
  have lp2 : ∀ (d : Nat) (k : Nat) (l1 : Nat → Int32) (hk9 : k ≤ L.length) (hl1 : ∀ i, i < k → l1 (30 * w + i) = atL L i) (ho1 : ∀ j, (j < 30 * w ∨ 30 * w + 30 ≤ j) → l1 j = lf j), L.length - k < d → ∀ (H : Heap) (locs : List Loc), va_P (dC, dI) vwCl [(y0, .inr (2, [.int tv, .int (nI rn), .ref q1, .ref q2, .int (nI L.length), .ref q3, .ref q4, .int ct, .int il, .ref q5])), (q1, .inl (cA, (2, .inl sf))), (q2, .inl (cA, (60, .inl l1))), (q3, .inl (cA, (320, .inl rf))), (q4, .inl (cA, (320, .inl nf))), (q5, .inl (cA, (6, .inl gf)))] H → va_D A [(y0, .inr (2, [.int tv, .int (nI rn), .ref q1, .ref q2, .int (nI L.length), .ref q3, .ref q4, .int ct, .int il, .ref q5])), (q1, .inl (cA, (2, .inl sf))), (q2, .inl (cA, (60, .inl l1))), (q3, .inl (cA, (320, .inl rf))), (q4, .inl (cA, (320, .inl nf))), (q5, .inl (cA, (6, .inl gf)))] → va_S A s.heap H locs → ∀ ls : Array Slot, lv_has ls 3 [(2, .int (nI k)), (0, .ref y0), (1, .int (nI w))] → W p l e mt_X2_store_rm s m ([.ref y0, .int (nI w)] : List Value).toArray below meth c H locs 0 0 (MQ below (gM (dC, dI) none (fun u : (Nat → Int32) × (Nat → Int32) => u.2 = upd sf w (nI L.length) ∧ (∀ i, i < L.length → u.1 (30 * w + i) = atL L i) ∧ ∀ j, (j < 30 * w ∨ 30 * w + 30 ≤ j) → u.1 j = lf j) (fun u : (Nat → Int32) × (Nat → Int32) => [(y0, .inr (2, [.int tv, .int (nI rn), .ref q1, .ref q2, .int (nI L.length), .ref q3, .ref q4, .int ct, .int il, .ref q5])), (q1, .inl (cA, (2, .inl u.2))), (q2, .inl (cA, (60, .inl u.1))), (q3, .inl (cA, (320, .inl rf))), (q4, .inl (cA, (320, .inl nf))), (q5, .inl (cA, (6, .inl gf)))]) A) ([.ref y0, .int (nI w)] : List Value).toArray s 0 0 A) (F0 m 2 ls []) := by
    intro d
    induction d with
    | zero => intro k l1 hk9 hl1 ho1 hd; exact absurd hd (Nat.not_lt_zero _)
    | succ d ih2 =>
      intro k l1 hk9 hl1 ho1 hd H locs hP hD hS ls hl
      refine lv_iload_n hx hb dX2_store_2 rfl (lv_at hl 0 rfl) ?_
      refine lv_aload_n hx hb dX2_store_3 rfl (lv_at hl 1 rfl) ?_
      refine va_get (D := (dC, dI)) (ci := 2) (v := .int (nI L.length)) (C := RX2) (T := TX2) (N := 10) hx hb hts (in_X2_store_2) hown hK hP 0 rfl rfl 4 (by decide) (hts (.fieldLink RX2 36 "BraidWordsModel" "many" "I") (List.mem_of_getElem? (i := 1) rfl)) (fun _ h9 => h9) rfl dX2_store_4 ?_
      refine lv_icmp_ge (tgt := 28) hx hb dX2_store_7 (by decide) (fun c7 => ?_) (fun c7 => ?_)
      · have c7 : L.length ≤ k := g_geT k L.length (by omega) (by omega) c7
        refine lv_aload_n hx hb dX2_store_28 rfl (lv_at hl 1 rfl) ?_
        refine va_get (D := (dC, dI)) (ci := 2) (v := .ref q1) (C := RX2) (T := TX2) (N := 10) hx hb hts (in_X2_store_2) hown hK hP 0 rfl rfl 2 (by decide) (hts (.fieldLink RX2 13 "BraidWordsModel" "size" "[I") (List.mem_of_getElem? (i := 3) rfl)) (fun _ h9 => h9) rfl dX2_store_29 ?_
        refine lv_iload_n hx hb dX2_store_32 rfl (lv_at hl 2 rfl) ?_
        refine lv_aload_n hx hb dX2_store_33 rfl (lv_at hl 1 rfl) ?_
        refine va_get (D := (dC, dI)) (ci := 2) (v := .int (nI L.length)) (C := RX2) (T := TX2) (N := 10) hx hb hts (in_X2_store_2) hown hK hP 0 rfl rfl 4 (by decide) (hts (.fieldLink RX2 36 "BraidWordsModel" "many" "I") (List.mem_of_getElem? (i := 1) rfl)) (fun _ h9 => h9) rfl dX2_store_34 ?_
        refine va_iast hx hb hK hP hD hS 1 0 rfl rfl (vp_in_nI (by omega) (by decide)) dX2_store_37 (fun H locs hP hD hS => ?_)
        rw [show (nI w).toNatClampNeg = w from nI_clamp (by omega)] at hP hD
        have hP : va_P (dC, dI) vwCl [(y0, .inr (2, [.int tv, .int (nI rn), .ref q1, .ref q2, .int (nI L.length), .ref q3, .ref q4, .int ct, .int il, .ref q5])), (q1, .inl (cA, (2, .inl (upd sf w (nI L.length))))), (q2, .inl (cA, (60, .inl l1))), (q3, .inl (cA, (320, .inl rf))), (q4, .inl (cA, (320, .inl nf))), (q5, .inl (cA, (6, .inl gf)))] H := hP
        have hD : va_D A [(y0, .inr (2, [.int tv, .int (nI rn), .ref q1, .ref q2, .int (nI L.length), .ref q3, .ref q4, .int ct, .int il, .ref q5])), (q1, .inl (cA, (2, .inl (upd sf w (nI L.length))))), (q2, .inl (cA, (60, .inl l1))), (q3, .inl (cA, (320, .inl rf))), (q4, .inl (cA, (320, .inl nf))), (q5, .inl (cA, (6, .inl gf)))] := hD
        exact g_endMv hx hb hr hlocks hP hS dX2_store_38 (l1, upd sf w (nI L.length)) rfl (⟨rfl, fun i h => hl1 i (by omega), ho1⟩)
      · have c7 : k < L.length := g_geF k L.length (by omega) (by omega) c7
        refine lv_aload_n hx hb dX2_store_10 rfl (lv_at hl 1 rfl) ?_
        refine lv_iload_n hx hb dX2_store_11 rfl (lv_at hl 2 rfl) ?_
        refine lv_iload_n hx hb dX2_store_12 rfl (lv_at hl 0 rfl) ?_
        refine lv_aload_n hx hb dX2_store_13 rfl (lv_at hl 1 rfl) ?_
        refine va_get (D := (dC, dI)) (ci := 2) (v := .ref q3) (C := RX2) (T := TX2) (N := 10) hx hb hts (in_X2_store_2) hown hK hP 0 rfl rfl 5 (by decide) (hts (.fieldLink RX2 20 "BraidWordsModel" "row" "[I") (List.mem_of_getElem? (i := 2) rfl)) (fun _ h9 => h9) rfl dX2_store_14 ?_
        refine lv_iload_n hx hb dX2_store_17 rfl (lv_at hl 0 rfl) ?_
        refine va_iald hx hb hK hP 3 0 rfl rfl (vp_in_nI (by omega) (by decide)) dX2_store_18 ?_
        rw [show (nI k).toNatClampNeg = k from nI_clamp (by omega)]
        rw [hR.2 k (by omega)]
        refine g_MVv (As := [.int (nI w), .int (nI k), .int (atL L k)]) (rest := []) ⟨hx, hb, hml, hown, hts⟩ (mt_X2_put l dC dI cA H.size y0 q1 q2 q3 q4 q5 rn tv sf l1 (nI L.length) rf nf ct il gf w k (atL L k) (by first | omega | (simp only [List.length_append, List.length_cons, List.length_nil, List.length_set, turnL_len]; omega)) (by first | omega | (simp only [List.length_append, List.length_cons, List.length_nil, List.length_set, turnL_len]; omega))) (cwV 3 hts gX2_store_X2_put rfl rfl rfl hdX2_put ⟨Nat.le_of_ble_eq_true rfl, Nat.le_of_ble_eq_true rfl⟩) hP hK hD hS hA [0, 1, 2, 3, 4, 5] (by decide) rfl (va_recv hK hP (ci := 2) (q0 := 0) rfl rfl) rfl hl.1 rfl (Nat.le_of_ble_eq_true rfl) dX2_store_19 (Nat.zero_le _) (Nat.zero_le _) (fun u9 => [(y0, .inr (2, [.int tv, .int (nI rn), .ref q1, .ref q2, .int (nI L.length), .ref q3, .ref q4, .int ct, .int il, .ref q5])), (q1, .inl (cA, (2, .inl sf))), (q2, .inl (cA, (60, .inl (upd l1 (30 * w + k) (atL L k))))), (q3, .inl (cA, (320, .inl rf))), (q4, .inl (cA, (320, .inl nf))), (q5, .inl (cA, (6, .inl gf)))]) (fun _ => rfl) (fun _ => rfl) (fun u H locs hw_1 hP hD hS => ?_)
        have hw_1 : True := hw_1
        have hP : va_P (dC, dI) vwCl [(y0, .inr (2, [.int tv, .int (nI rn), .ref q1, .ref q2, .int (nI L.length), .ref q3, .ref q4, .int ct, .int il, .ref q5])), (q1, .inl (cA, (2, .inl sf))), (q2, .inl (cA, (60, .inl (upd l1 (30 * w + k) (atL L k))))), (q3, .inl (cA, (320, .inl rf))), (q4, .inl (cA, (320, .inl nf))), (q5, .inl (cA, (6, .inl gf)))] H := hP
        have hD : va_D A [(y0, .inr (2, [.int tv, .int (nI rn), .ref q1, .ref q2, .int (nI L.length), .ref q3, .ref q4, .int ct, .int il, .ref q5])), (q1, .inl (cA, (2, .inl sf))), (q2, .inl (cA, (60, .inl (upd l1 (30 * w + k) (atL L k))))), (q3, .inl (cA, (320, .inl rf))), (q4, .inl (cA, (320, .inl nf))), (q5, .inl (cA, (6, .inl gf)))] := hD
        refine lv_iinc (v := nI (k + 1)) (lv' := [(2, .int (nI (k + 1))), (0, .ref y0), (1, .int (nI w))]) hx hb dX2_store_22 hl (k := 0) rfl (g_inc _) (by decide) rfl (fun ls hl => ?_)
        refine lv_goto (tgt := 2) hx hb dX2_store_25 (by decide) ?_
        exact ih2 (k + 1) (upd l1 (30 * w + k) (atL L k)) (by omega) (fun i h => by by_cases c : i = k; (subst c; exact pk_us); (rw [pk_un (by omega)]; exact hl1 i (by omega))) (fun j h => by rw [pk_un (by omega)]; exact ho1 j h) (by omega) _ _ hP hD hS _ (lv_sub hl [0, 1, 2] rfl)
  exact lp2 ((L.length - 0) + 1) 0 lf (Nat.zero_le _) (fun i h => absurd h (Nat.not_lt_zero i)) (fun _ _ => rfl) (Nat.lt_succ_self _) _ _ hP hD hS _ (lv_sub hl [0, 1, 2] rfl)

abbrev mt_X2_begins_rm : Room := { frames := 1, cells := 0, slots := 0, locals := 21 }
set_option maxHeartbeats 4000000 in
set_option maxRecDepth 100000 in
theorem mt_X2_begins (l : Launch) (dC : Nat → ClassId) (dI : Nat → Nat → Nat) (cA : ClassId) (sz : Nat) (y0 : Nat) (q1 : Nat) (q2 : Nat) (q3 : Nat) (q4 : Nat) (q5 : Nat) (rn : Nat) (tv : Int32) (sf : Nat → Int32) (lf : Nat → Int32) (rf : Nat → Int32) (nf : Nat → Int32) (ct : Int32) (il : Int32) (gf : Nat → Int32) (L : List Int32) (e9 : Nat) (hR : MR L rf) (hrn : rn ∈ rnS) (hok : okL rn L) (he9 : e9 < L.length) : Met l yX2_begins wsX2_begins mt_X2_begins_rm (va_Pc [.ref y0, .int (nI e9)] (gB (dC, dI) [(cA, .int)] [(y0, .inr (2, [.int tv, .int (nI rn), .ref q1, .ref q2, .int (nI L.length), .ref q3, .ref q4, .int ct, .int il, .ref q5])), (q1, .inl (cA, (2, .inl sf))), (q2, .inl (cA, (60, .inl lf))), (q3, .inl (cA, (320, .inl rf))), (q4, .inl (cA, (320, .inl nf))), (q5, .inl (cA, (6, .inl gf)))] sz)) (gR (some (.int (oiI (bg L e9))))) 0 0 (fun _ => False) := by
  refine g_ofR (cc := cX2_begins) (maxL := 5) (ret := (some .int)) (by decide) rfl (Nat.le_of_ble_eq_true rfl) (fun p e s m below meth c ls hx hb hr hml hts hown hlocks hP hK hl hD => ?_)
  have hS : va_S (fun _ => True) s.heap s.heap [] := va_S.rf
  have hl : lv_has ls 5 [(0, .ref y0), (1, .int (nI e9))] := hl
  have hLm := hR.1
  refine lv_aload_n hx hb dX2_begins_0 rfl (lv_at hl 0 rfl) ?_
  refine va_get (D := (dC, dI)) (ci := 2) (v := .ref q3) (C := RX2) (T := TX2) (N := 10) hx hb hts (in_X2_begins_2) hown hK hP 0 rfl rfl 5 (by decide) (hts (.fieldLink RX2 20 "BraidWordsModel" "row" "[I") (List.mem_of_getElem? (i := 1) rfl)) (fun _ h9 => h9) rfl dX2_begins_1 ?_
  refine lv_iload_n hx hb dX2_begins_4 rfl (lv_at hl 1 rfl) ?_
  refine va_iald hx hb hK hP 3 0 rfl rfl (vp_in_nI (by omega) (by decide)) dX2_begins_5 ?_
  rw [show (nI e9).toNatClampNeg = e9 from nI_clamp (by omega)]
  rw [hR.2 e9 (by omega)]
  refine va_mabs hx hb (hml.trans hl.1.symm) hown (hts (.methodLink RX2 47 Lib.Math.abs.name) (List.mem_of_getElem? (i := 2) rfl)) (hts (.static Lib.Math.abs.name) (List.mem_of_getElem? (i := 3) rfl)) (hts (.initialized "java/lang/Math") (List.mem_of_getElem? (i := 4) rfl)) (hts (.code Lib.Math.abs.name Lib.Math.abs.code 1 (some .int)) (List.mem_of_getElem? (i := 5) rfl)) (Nat.le_of_ble_eq_true rfl) (Nat.le_of_ble_eq_true rfl) (Nat.zero_le _) (Nat.zero_le _) dX2_begins_6 ?_
  rw [mabs_eq]
  refine lv_istore_n (lv' := [(2, .int (abI (atL L e9))), (0, .ref y0), (1, .int (nI e9))]) hx hb dX2_begins_9 rfl hl (by decide) rfl (fun ls hl => ?_)
  refine lv_iload_n hx hb dX2_begins_10 rfl (lv_at hl 2 rfl) ?_
  refine lv_iconst (v := 1) hx hb dX2_begins_11 (by decide) ?_
  refine lv_isub hx hb dX2_begins_12 ?_
  rw [plI_sub e9]
  refine lv_istore_n (lv' := [(3, .int (plI e9)), (2, .int (abI (atL L e9))), (0, .ref y0), (1, .int (nI e9))]) hx hb dX2_begins_13 rfl hl (by decide) rfl (fun ls hl => ?_)
  have lp14 : ∀ (d : Nat) (j : Nat) (hj : j ≤ e9) (hb9 : bgL L e9 j = bg L e9), j < d → ∀ ls : Array Slot, lv_has ls 5 [(3, .int (plI j)), (2, .int (abI (atL L e9))), (0, .ref y0), (1, .int (nI e9))] → W p l e mt_X2_begins_rm s m ([.ref y0, .int (nI e9)] : List Value).toArray below meth c s.heap [] 0 0 (MQ below (gR (some (.int (oiI (bg L e9))))) ([.ref y0, .int (nI e9)] : List Value).toArray s 0 0 (fun _ => False)) (F0 m 14 ls []) := by
    intro d
    induction d with
    | zero => intro j hj hb9 hd; exact absurd hd (Nat.not_lt_zero _)
    | succ d ih14 =>
      intro j hj hb9 hd ls hl
      cases j with
      | zero =>
        have hl : lv_has ls 5 [(3, .int (-1)), (2, .int (abI (atL L e9))), (0, .ref y0), (1, .int (nI e9))] := hl
        refine lv_iload_n hx hb dX2_begins_14 rfl (lv_at hl 0 rfl) ?_
        refine lv_if_lt (tgt := 73) hx hb dX2_begins_15 (by decide) (fun c15 => ?_) (fun c15 => ?_)
        · refine lv_iconst (v := (-1)) hx hb dX2_begins_73 (by decide) ?_
          exact g_endRi hx hb hr hlocks dX2_begins_74 (by rw [← hb9]; rfl)
        · exact absurd (by decide) c15
      | succ j =>
        have hl : lv_has ls 5 [(3, .int (nI j)), (2, .int (abI (atL L e9))), (0, .ref y0), (1, .int (nI e9))] := hl
        refine lv_iload_n hx hb dX2_begins_14 rfl (lv_at hl 0 rfl) ?_
        refine lv_if_lt (tgt := 73) hx hb dX2_begins_15 (by decide) (fun c15 => ?_) (fun c15 => ?_)
        · exact absurd (g_ltT j 0 (by omega) (by omega) c15) (by omega)
        · have c15 : 0 ≤ j := g_ltF j 0 (by omega) (by omega) c15
          refine lv_aload_n hx hb dX2_begins_18 rfl (lv_at hl 2 rfl) ?_
          refine va_get (D := (dC, dI)) (ci := 2) (v := .ref q3) (C := RX2) (T := TX2) (N := 10) hx hb hts (in_X2_begins_2) hown hK hP 0 rfl rfl 5 (by decide) (hts (.fieldLink RX2 20 "BraidWordsModel" "row" "[I") (List.mem_of_getElem? (i := 1) rfl)) (fun _ h9 => h9) rfl dX2_begins_19 ?_
          refine lv_iload_n hx hb dX2_begins_22 rfl (lv_at hl 0 rfl) ?_
          refine va_iald hx hb hK hP 3 0 rfl rfl (vp_in_nI (by omega) (by decide)) dX2_begins_23 ?_
          rw [show (nI j).toNatClampNeg = j from nI_clamp (by omega)]
          rw [hR.2 j (by omega)]
          refine va_mabs hx hb (hml.trans hl.1.symm) hown (hts (.methodLink RX2 47 Lib.Math.abs.name) (List.mem_of_getElem? (i := 2) rfl)) (hts (.static Lib.Math.abs.name) (List.mem_of_getElem? (i := 3) rfl)) (hts (.initialized "java/lang/Math") (List.mem_of_getElem? (i := 4) rfl)) (hts (.code Lib.Math.abs.name Lib.Math.abs.code 1 (some .int)) (List.mem_of_getElem? (i := 5) rfl)) (Nat.le_of_ble_eq_true rfl) (Nat.le_of_ble_eq_true rfl) (Nat.zero_le _) (Nat.zero_le _) dX2_begins_24 ?_
          rw [mabs_eq]
          refine lv_istore (lv' := [(4, .int (abI (atL L j))), (3, .int (nI j)), (2, .int (abI (atL L e9))), (0, .ref y0), (1, .int (nI e9))]) hx hb dX2_begins_27 hl (by decide) rfl (fun ls hl => ?_)
          refine lv_iload hx hb dX2_begins_29 (lv_at hl 0 rfl) ?_
          refine lv_iload_n hx hb dX2_begins_31 rfl (lv_at hl 2 rfl) ?_
          refine lv_icmp_ne (tgt := 57) hx hb dX2_begins_32 (by decide) (fun c32 => ?_) (fun c32 => ?_)
          · refine lv_iload hx hb dX2_begins_57 (lv_at hl 0 rfl) ?_
            refine lv_iload_n hx hb dX2_begins_59 rfl (lv_at hl 2 rfl) ?_
            refine lv_iconst (v := 1) hx hb dX2_begins_60 (by decide) ?_
            refine lv_isub hx hb dX2_begins_61 ?_
            refine lv_icmp_ne (tgt := 67) hx hb dX2_begins_62 (by decide) (fun c62 => ?_) (fun c62 => ?_)
            · refine lv_iinc (v := plI j) (lv' := [(3, .int (plI j)), (4, .int (abI (atL L j))), (2, .int (abI (atL L e9))), (0, .ref y0), (1, .int (nI e9))]) hx hb dX2_begins_67 hl (k := 1) rfl (plI_dec _) (by decide) rfl (fun ls hl => ?_)
              refine lv_goto (tgt := 14) hx hb dX2_begins_70 (by decide) ?_
              exact ih14 j (by omega) (by rw [← hb9, bgm_go hrn hok he9 c32 c62]) (by omega) _ (lv_sub hl [0, 2, 3, 4] rfl)
            · refine lv_iconst (v := (-1)) hx hb dX2_begins_65 (by decide) ?_
              exact g_endRi hx hb hr hlocks dX2_begins_66 (by rw [← hb9, bgm_low hrn hok he9 c32 c62]; rfl)
          · refine lv_aload_n hx hb dX2_begins_35 rfl (lv_at hl 3 rfl) ?_
            refine va_get (D := (dC, dI)) (ci := 2) (v := .ref q3) (C := RX2) (T := TX2) (N := 10) hx hb hts (in_X2_begins_2) hown hK hP 0 rfl rfl 5 (by decide) (hts (.fieldLink RX2 20 "BraidWordsModel" "row" "[I") (List.mem_of_getElem? (i := 1) rfl)) (fun _ h9 => h9) rfl dX2_begins_36 ?_
            refine lv_iload_n hx hb dX2_begins_39 rfl (lv_at hl 1 rfl) ?_
            refine va_iald hx hb hK hP 3 0 rfl rfl (vp_in_nI (by omega) (by decide)) dX2_begins_40 ?_
            rw [show (nI j).toNatClampNeg = j from nI_clamp (by omega)]
            rw [hR.2 j (by omega)]
            refine lv_aload_n hx hb dX2_begins_41 rfl (lv_at hl 3 rfl) ?_
            refine va_get (D := (dC, dI)) (ci := 2) (v := .ref q3) (C := RX2) (T := TX2) (N := 10) hx hb hts (in_X2_begins_2) hown hK hP 0 rfl rfl 5 (by decide) (hts (.fieldLink RX2 20 "BraidWordsModel" "row" "[I") (List.mem_of_getElem? (i := 1) rfl)) (fun _ h9 => h9) rfl dX2_begins_42 ?_
            refine lv_iload_n hx hb dX2_begins_45 rfl (lv_at hl 4 rfl) ?_
            refine va_iald hx hb hK hP 3 0 rfl rfl (vp_in_nI (by omega) (by decide)) dX2_begins_46 ?_
            rw [show (nI e9).toNatClampNeg = e9 from nI_clamp (by omega)]
            rw [hR.2 e9 (by omega)]
            refine lv_ineg hx hb dX2_begins_47 ?_
            refine lv_icmp_ne (tgt := 55) hx hb dX2_begins_48 (by decide) (fun c48 => ?_) (fun c48 => ?_)
            · refine lv_iconst (v := (-1)) hx hb dX2_begins_55 (by decide) ?_
              exact g_endRi hx hb hr hlocks dX2_begins_56 (by rw [← hb9]; first | (rw [bgm_eq c48]; rfl) | (rw [bgm_ne c32 c48]; rfl))
            · refine lv_iload_n hx hb dX2_begins_51 rfl (lv_at hl 1 rfl) ?_
              refine lv_goto (tgt := 56) hx hb dX2_begins_52 (by decide) ?_
              exact g_endRi hx hb hr hlocks dX2_begins_56 (by rw [← hb9]; first | (rw [bgm_eq c48]; rfl) | (rw [bgm_ne c32 c48]; rfl))
  exact lp14 ((e9) + 1) e9 (Nat.le_refl _) rfl (Nat.lt_succ_self _) _ (lv_sub hl [0, 1, 2, 3] rfl)

abbrev mt_X2_ends_rm : Room := { frames := 2, cells := 0, slots := 0, locals := 45 }
set_option maxHeartbeats 4000000 in
set_option maxRecDepth 100000 in
theorem mt_X2_ends (l : Launch) (dC : Nat → ClassId) (dI : Nat → Nat → Nat) (cA : ClassId) (sz : Nat) (y0 : Nat) (q1 : Nat) (q2 : Nat) (q3 : Nat) (q4 : Nat) (q5 : Nat) (rn : Nat) (tv : Int32) (sf : Nat → Int32) (lf : Nat → Int32) (rf : Nat → Int32) (nf : Nat → Int32) (ct : Int32) (il : Int32) (gf : Nat → Int32) (L : List Int32) (hR : MR L rf) (hrn : rn ∈ rnS) (hok : okL rn L) : Met l yX2_ends wsX2_ends mt_X2_ends_rm (va_Pc [.ref y0] (gB (dC, dI) [(cA, .int)] [(y0, .inr (2, [.int tv, .int (nI rn), .ref q1, .ref q2, .int (nI L.length), .ref q3, .ref q4, .int ct, .int il, .ref q5])), (q1, .inl (cA, (2, .inl sf))), (q2, .inl (cA, (60, .inl lf))), (q3, .inl (cA, (320, .inl rf))), (q4, .inl (cA, (320, .inl nf))), (q5, .inl (cA, (6, .inl gf)))] sz)) (gR (some (.int (oiI (enF L 0))))) 0 0 (fun _ => False) := by
  refine g_ofR (cc := cX2_ends) (maxL := 2) (ret := (some .int)) (by decide) rfl (Nat.le_of_ble_eq_true rfl) (fun p e s m below meth c ls hx hb hr hml hts hown hlocks hP hK hl hD => ?_)
  have hS : va_S (fun _ => True) s.heap s.heap [] := va_S.rf
  have hl : lv_has ls 2 [(0, .ref y0)] := hl
  have hLm := hR.1
  refine lv_iconst (v := 1) hx hb dX2_ends_0 (by decide) ?_
  refine lv_istore_n (lv' := [(1, .int 1), (0, .ref y0)]) hx hb dX2_ends_1 rfl hl (by decide) rfl (fun ls hl => ?_)
  have lp2 : ∀ (d : Nat) (k : Nat) (hk1 : k ≤ 321) (hb9 : enF L k = enF L 0), 322 - k < d → ∀ ls : Array Slot, lv_has ls 2 [(1, .int (nI k)), (0, .ref y0)] → W p l e mt_X2_ends_rm s m ([.ref y0] : List Value).toArray below meth c s.heap [] 0 0 (MQ below (gR (some (.int (oiI (enF L 0))))) ([.ref y0] : List Value).toArray s 0 0 (fun _ => False)) (F0 m 2 ls []) := by
    intro d
    induction d with
    | zero => intro k hk1 hb9 hd; exact absurd hd (Nat.not_lt_zero _)
    | succ d ih2 =>
      intro k hk1 hb9 hd ls hl
      refine lv_iload_n hx hb dX2_ends_2 rfl (lv_at hl 0 rfl) ?_
      refine lv_aload_n hx hb dX2_ends_3 rfl (lv_at hl 1 rfl) ?_
      refine va_get (D := (dC, dI)) (ci := 2) (v := .int (nI L.length)) (C := RX2) (T := TX2) (N := 10) hx hb hts (in_X2_ends_2) hown hK hP 0 rfl rfl 4 (by decide) (hts (.fieldLink RX2 36 "BraidWordsModel" "many" "I") (List.mem_of_getElem? (i := 1) rfl)) (fun _ h9 => h9) rfl dX2_ends_4 ?_
      refine lv_icmp_ge (tgt := 27) hx hb dX2_ends_7 (by decide) (fun c7 => ?_) (fun c7 => ?_)
      · have c7 : L.length ≤ k := g_geT k L.length (by omega) (by omega) c7
        refine lv_iconst (v := (-1)) hx hb dX2_ends_27 (by decide) ?_
        exact g_endRi hx hb hr hlocks dX2_ends_28 (by rw [← hb9, enF_out (by omega)]; rfl)
      · have c7 : k < L.length := g_geF k L.length (by omega) (by omega) c7
        refine lv_aload_n hx hb dX2_ends_10 rfl (lv_at hl 1 rfl) ?_
        refine lv_iload_n hx hb dX2_ends_11 rfl (lv_at hl 0 rfl) ?_
        refine g_RVi (As := [.int (nI k)]) (rest := []) ⟨hx, hb, hml, hown, hts⟩ (mt_X2_begins l dC dI cA s.heap.size y0 q1 q2 q3 q4 q5 rn tv sf lf rf nf ct il gf L k hR (by first | omega | (simp only [List.length_append, List.length_cons, List.length_nil, List.length_set, turnL_len]; omega)) (by first | omega | (simp only [List.length_append, List.length_cons, List.length_nil, List.length_set, turnL_len]; omega)) (by first | omega | (simp only [List.length_append, List.length_cons, List.length_nil, List.length_set, turnL_len]; omega))) (cwV 1 hts gX2_ends_X2_begins rfl rfl rfl hdX2_begins ⟨Nat.le_of_ble_eq_true rfl, Nat.le_of_ble_eq_true rfl⟩) hP hK hD [0, 1, 2, 3, 4, 5] (by decide) rfl (va_recv hK hP (ci := 2) (q0 := 0) rfl rfl) rfl hl.1 rfl (Nat.le_of_ble_eq_true rfl) dX2_ends_12 (Nat.zero_le _) (Nat.zero_le _) ?_
        refine lv_iconst (v := (-1)) hx hb dX2_ends_15 (by decide) ?_
        refine lv_icmp_eq (tgt := 21) hx hb dX2_ends_16 (by decide) (fun c16 => ?_) (fun c16 => ?_)
        · have c16 : bg L k = none := oiI_no (bg_small (by omega)) c16
          refine lv_iinc (v := nI (k + 1)) (lv' := [(1, .int (nI (k + 1))), (0, .ref y0)]) hx hb dX2_ends_21 hl (k := 0) rfl (g_inc _) (by decide) rfl (fun ls hl => ?_)
          refine lv_goto (tgt := 2) hx hb dX2_ends_24 (by decide) ?_
          exact ih2 (k + 1) (by omega) (by rw [← hb9, enF_none (by omega) c16]) (by omega) _ (lv_sub hl [0, 1] rfl)
        · obtain ⟨b, c16⟩ := oiI_yes c16
          refine lv_iload_n hx hb dX2_ends_19 rfl (lv_at hl 0 rfl) ?_
          exact g_endRi hx hb hr hlocks dX2_ends_20 (by rw [← hb9, enF_some (by omega) c16]; rfl)
  exact lp2 ((322 - 1) + 1) 1 (by omega) enF_one (Nat.lt_succ_self _) _ (lv_sub hl [0, 1] rfl)

abbrev mt_X2_more_rm : Room := { frames := 2, cells := 0, slots := 0, locals := 45 }
set_option maxHeartbeats 4000000 in
set_option maxRecDepth 100000 in
theorem mt_X2_more (l : Launch) (dC : Nat → ClassId) (dI : Nat → Nat → Nat) (cA : ClassId) (sz : Nat) (y0 : Nat) (q1 : Nat) (q2 : Nat) (q3 : Nat) (q4 : Nat) (q5 : Nat) (rn : Nat) (tv : Int32) (sf : Nat → Int32) (lf : Nat → Int32) (rf : Nat → Int32) (nf : Nat → Int32) (ct : Int32) (il : Int32) (gf : Nat → Int32) (L : List Int32) (b9 : Nat) (e9 : Nat) (hR : MR L rf) (hrn : rn ∈ rnS) (hok : okL rn L) (he9 : e9 < L.length) (hbg : bg L e9 = some b9) : Met l yX2_more wsX2_more mt_X2_more_rm (va_Pc [.ref y0, .int (nI e9)] (gB (dC, dI) [(cA, .int)] [(y0, .inr (2, [.int tv, .int (nI rn), .ref q1, .ref q2, .int (nI L.length), .ref q3, .ref q4, .int ct, .int il, .ref q5])), (q1, .inl (cA, (2, .inl sf))), (q2, .inl (cA, (60, .inl lf))), (q3, .inl (cA, (320, .inl rf))), (q4, .inl (cA, (320, .inl nf))), (q5, .inl (cA, (6, .inl gf)))] sz)) (gR (some (.int (moI (cnL L b9 (e9 - (b9 + 1))))))) 0 0 (fun _ => False) := by
  refine g_ofR (cc := cX2_more) (maxL := 5) (ret := (some .int)) (by decide) rfl (Nat.le_of_ble_eq_true rfl) (fun p e s m below meth c ls hx hb hr hml hts hown hlocks hP hK hl hD => ?_)
  have hS : va_S (fun _ => True) s.heap s.heap [] := va_S.rf
  have hl : lv_has ls 5 [(0, .ref y0), (1, .int (nI e9))] := hl
  have hLm := hR.1
  have hbe := bg_lt hbg
  have heb : abI (atL L b9) = abI (atL L e9) := by rw [bg_neg hbg]; exact (ok_neg rn hrn _ (okL_at hok he9)).2
  refine lv_aload_n hx hb dX2_more_0 rfl (lv_at hl 0 rfl) ?_
  refine va_get (D := (dC, dI)) (ci := 2) (v := .ref q3) (C := RX2) (T := TX2) (N := 10) hx hb hts (in_X2_more_2) hown hK hP 0 rfl rfl 5 (by decide) (hts (.fieldLink RX2 20 "BraidWordsModel" "row" "[I") (List.mem_of_getElem? (i := 1) rfl)) (fun _ h9 => h9) rfl dX2_more_1 ?_
  refine lv_iload_n hx hb dX2_more_4 rfl (lv_at hl 1 rfl) ?_
  refine va_iald hx hb hK hP 3 0 rfl rfl (vp_in_nI (by omega) (by decide)) dX2_more_5 ?_
  rw [show (nI e9).toNatClampNeg = e9 from nI_clamp (by omega)]
  rw [hR.2 e9 (by omega)]
  refine va_mabs hx hb (hml.trans hl.1.symm) hown (hts (.methodLink RX2 47 Lib.Math.abs.name) (List.mem_of_getElem? (i := 2) rfl)) (hts (.static Lib.Math.abs.name) (List.mem_of_getElem? (i := 3) rfl)) (hts (.initialized "java/lang/Math") (List.mem_of_getElem? (i := 4) rfl)) (hts (.code Lib.Math.abs.name Lib.Math.abs.code 1 (some .int)) (List.mem_of_getElem? (i := 5) rfl)) (Nat.le_of_ble_eq_true rfl) (Nat.le_of_ble_eq_true rfl) (Nat.zero_le _) (Nat.zero_le _) dX2_more_6 ?_
  rw [mabs_eq]
  rw [← heb]
  refine lv_iconst (v := 1) hx hb dX2_more_9 (by decide) ?_
  refine lv_iadd hx hb dX2_more_10 ?_
  refine lv_istore_n (lv' := [(2, .int ((abI (atL L b9)) + 1)), (0, .ref y0), (1, .int (nI e9))]) hx hb dX2_more_11 rfl hl (by decide) rfl (fun ls hl => ?_)
  refine lv_bipush (v := (-2)) hx hb dX2_more_12 (by decide) ?_
  refine lv_istore_n (lv' := [(3, .int (-2)), (2, .int ((abI (atL L b9)) + 1)), (0, .ref y0), (1, .int (nI e9))]) hx hb dX2_more_14 rfl hl (by decide) rfl (fun ls hl => ?_)
  refine lv_aload_n hx hb dX2_more_15 rfl (lv_at hl 2 rfl) ?_
  refine lv_iload_n hx hb dX2_more_16 rfl (lv_at hl 3 rfl) ?_
  refine g_RVi (As := [.int (nI e9)]) (rest := []) ⟨hx, hb, hml, hown, hts⟩ (mt_X2_begins l dC dI cA s.heap.size y0 q1 q2 q3 q4 q5 rn tv sf lf rf nf ct il gf L e9 hR (by first | omega | (simp only [List.length_append, List.length_cons, List.length_nil, List.length_set, turnL_len]; omega)) (by first | omega | (simp only [List.length_append, List.length_cons, List.length_nil, List.length_set, turnL_len]; omega)) (by first | omega | (simp only [List.length_append, List.length_cons, List.length_nil, List.length_set, turnL_len]; omega))) (cwV 1 hts gX2_more_X2_begins rfl rfl rfl hdX2_begins ⟨Nat.le_of_ble_eq_true rfl, Nat.le_of_ble_eq_true rfl⟩) hP hK hD [0, 1, 2, 3, 4, 5] (by decide) rfl (va_recv hK hP (ci := 2) (q0 := 0) rfl rfl) rfl hl.1 rfl (Nat.le_of_ble_eq_true rfl) dX2_more_17 (Nat.zero_le _) (Nat.zero_le _) ?_
  rw [show oiI (bg L e9) = nI b9 from by rw [hbg]; rfl]
  refine lv_iconst (v := 1) hx hb dX2_more_20 (by decide) ?_
  refine lv_iadd hx hb dX2_more_21 ?_
  rw [show (nI b9) + 1 = nI (b9 + 1) from nI_add b9 1]
  refine lv_istore (lv' := [(4, .int (nI (b9 + 1))), (3, .int (-2)), (2, .int ((abI (atL L b9)) + 1)), (0, .ref y0), (1, .int (nI e9))]) hx hb dX2_more_22 hl (by decide) rfl (fun ls hl => ?_)
  rw [← moI_0] at hl
  have hl : lv_has ls 5 [(4, .int (nI (b9 + 1))), (3, .int (moI (cnL L b9 0))), (2, .int ((abI (atL L b9)) + 1)), (0, .ref y0), (1, .int (nI e9))] := hl
  have lp24 : ∀ (d : Nat) (j : Nat) (hj : b9 + 1 + j ≤ e9), e9 - j < d → ∀ ls : Array Slot, lv_has ls 5 [(4, .int (nI (b9 + 1 + j))), (3, .int (moI (cnL L b9 j))), (2, .int (abI (atL L b9) + 1)), (0, .ref y0), (1, .int (nI e9))] → W p l e mt_X2_more_rm s m ([.ref y0, .int (nI e9)] : List Value).toArray below meth c s.heap [] 0 0 (MQ below (gR (some (.int (moI (cnL L b9 (e9 - (b9 + 1))))))) ([.ref y0, .int (nI e9)] : List Value).toArray s 0 0 (fun _ => False)) (F0 m 24 ls []) := by
    intro d
    induction d with
    | zero => intro j hj hd; exact absurd hd (Nat.not_lt_zero _)
    | succ d ih24 =>
      intro j hj hd ls hl
      refine lv_iload hx hb dX2_more_24 (lv_at hl 0 rfl) ?_
      refine lv_iload_n hx hb dX2_more_26 rfl (lv_at hl 4 rfl) ?_
      refine lv_icmp_ge (tgt := 58) hx hb dX2_more_27 (by decide) (fun c27 => ?_) (fun c27 => ?_)
      · have c27 : e9 ≤ (b9 + 1 + j) := g_geT (b9 + 1 + j) e9 (by omega) (by omega) c27
        refine lv_iload_n hx hb dX2_more_58 rfl (lv_at hl 1 rfl) ?_
        exact g_endRi hx hb hr hlocks dX2_more_59 (by rw [show j = e9 - (b9 + 1) by omega])
      · have c27 : (b9 + 1 + j) < e9 := g_geF (b9 + 1 + j) e9 (by omega) (by omega) c27
        refine lv_iload_n hx hb dX2_more_30 rfl (lv_at hl 1 rfl) ?_
        refine lv_aload_n hx hb dX2_more_31 rfl (lv_at hl 3 rfl) ?_
        refine va_get (D := (dC, dI)) (ci := 2) (v := .ref q3) (C := RX2) (T := TX2) (N := 10) hx hb hts (in_X2_more_2) hown hK hP 0 rfl rfl 5 (by decide) (hts (.fieldLink RX2 20 "BraidWordsModel" "row" "[I") (List.mem_of_getElem? (i := 1) rfl)) (fun _ h9 => h9) rfl dX2_more_32 ?_
        refine lv_iload hx hb dX2_more_35 (lv_at hl 0 rfl) ?_
        refine va_iald hx hb hK hP 3 0 rfl rfl (vp_in_nI (by omega) (by decide)) dX2_more_37 ?_
        rw [show (nI (b9 + 1 + j)).toNatClampNeg = b9 + 1 + j from nI_clamp (by omega)]
        rw [hR.2 (b9 + 1 + j) (by omega)]
        refine va_mabs hx hb (hml.trans hl.1.symm) hown (hts (.methodLink RX2 47 Lib.Math.abs.name) (List.mem_of_getElem? (i := 2) rfl)) (hts (.static Lib.Math.abs.name) (List.mem_of_getElem? (i := 3) rfl)) (hts (.initialized "java/lang/Math") (List.mem_of_getElem? (i := 4) rfl)) (hts (.code Lib.Math.abs.name Lib.Math.abs.code 1 (some .int)) (List.mem_of_getElem? (i := 5) rfl)) (Nat.le_of_ble_eq_true rfl) (Nat.le_of_ble_eq_true rfl) (Nat.zero_le _) (Nat.zero_le _) dX2_more_38 ?_
        rw [mabs_eq]
        refine lv_iload_n hx hb dX2_more_41 rfl (lv_at hl 2 rfl) ?_
        refine lv_icmp_ne (tgt := 49) hx hb dX2_more_42 (by decide) (fun c42 => ?_) (fun c42 => ?_)
        · refine lv_iconst (v := 0) hx hb dX2_more_49 (by decide) ?_
          refine lv_iadd hx hb dX2_more_50 ?_
          rw [Int32.add_zero, show cnL L b9 j = cnL L b9 (j + 1) from by show _ = _ + _; rw [if_neg c42, Nat.add_zero]]
          refine lv_istore_n (lv' := [(3, .int (moI (cnL L b9 (j + 1)))), (4, .int (nI (b9 + 1 + j))), (2, .int (abI (atL L b9) + 1)), (0, .ref y0), (1, .int (nI e9))]) hx hb dX2_more_51 rfl hl (by decide) rfl (fun ls hl => ?_)
          refine lv_iinc (v := nI (b9 + 1 + j + 1)) (lv' := [(4, .int (nI (b9 + 1 + j + 1))), (3, .int (moI (cnL L b9 (j + 1)))), (2, .int (abI (atL L b9) + 1)), (0, .ref y0), (1, .int (nI e9))]) hx hb dX2_more_52 hl (k := 1) rfl (g_inc _) (by decide) rfl (fun ls hl => ?_)
          refine lv_goto (tgt := 24) hx hb dX2_more_55 (by decide) ?_
          exact ih24 (j + 1) (by omega) (by omega) _ (lv_sub hl [0, 1, 2, 3, 4] rfl)
        · refine lv_iconst (v := 2) hx hb dX2_more_45 (by decide) ?_
          refine lv_goto (tgt := 50) hx hb dX2_more_46 (by decide) ?_
          refine lv_iadd hx hb dX2_more_50 ?_
          rw [moI_1, show cnL L b9 j + 1 = cnL L b9 (j + 1) from by show _ = _ + _; rw [if_pos c42]]
          refine lv_istore_n (lv' := [(3, .int (moI (cnL L b9 (j + 1)))), (4, .int (nI (b9 + 1 + j))), (2, .int (abI (atL L b9) + 1)), (0, .ref y0), (1, .int (nI e9))]) hx hb dX2_more_51 rfl hl (by decide) rfl (fun ls hl => ?_)
          refine lv_iinc (v := nI (b9 + 1 + j + 1)) (lv' := [(4, .int (nI (b9 + 1 + j + 1))), (3, .int (moI (cnL L b9 (j + 1)))), (2, .int (abI (atL L b9) + 1)), (0, .ref y0), (1, .int (nI e9))]) hx hb dX2_more_52 hl (k := 1) rfl (g_inc _) (by decide) rfl (fun ls hl => ?_)
          refine lv_goto (tgt := 24) hx hb dX2_more_55 (by decide) ?_
          exact ih24 (j + 1) (by omega) (by omega) _ (lv_sub hl [0, 1, 2, 3, 4] rfl)
  exact lp24 ((e9 - 0) + 1) 0 (by omega) (Nat.lt_succ_self _) _ (lv_sub hl [0, 1, 2, 3, 4] rfl)
