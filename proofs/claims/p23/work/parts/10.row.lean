set_option maxRecDepth 20000 in
theorem in_X0_size_0 : ∀ w ∈ wsX00, w ∈ wsX0_size := by decide +kernel
set_option maxRecDepth 20000 in
theorem in_X0_at_0 : ∀ w ∈ wsX00, w ∈ wsX0_at := by decide +kernel
set_option maxRecDepth 20000 in
theorem in_X0_set_0 : ∀ w ∈ wsX00, w ∈ wsX0_set := by decide +kernel
set_option maxRecDepth 20000 in
theorem in_X0_add_0 : ∀ w ∈ wsX00, w ∈ wsX0_add := by decide +kernel
set_option maxRecDepth 20000 in
theorem in_X0_clear_0 : ∀ w ∈ wsX00, w ∈ wsX0_clear := by decide +kernel
set_option maxRecDepth 20000 in
theorem in_X0_dropLast_0 : ∀ w ∈ wsX00, w ∈ wsX0_dropLast := by decide +kernel
set_option maxRecDepth 20000 in
theorem in_X0_copy_0 : ∀ w ∈ wsX00, w ∈ wsX0_copy := by decide +kernel
set_option maxRecDepth 20000 in
theorem in_X0_putIn_0 : ∀ w ∈ wsX00, w ∈ wsX0_putIn := by decide +kernel
theorem hdX0_add : yX0_add.cls = RX0 ∧ yX0_add.cls ≠ "java/lang/invoke/MethodHandle" ∧ yX0_add.cls ≠ "java/lang/invoke/VarHandle" ∧ (parseMethodDescriptor yX0_add.desc).map (fun d => d.parameters.length) = some 1 := by decide +kernel
theorem hdX0_at : yX0_at.cls = RX0 ∧ yX0_at.cls ≠ "java/lang/invoke/MethodHandle" ∧ yX0_at.cls ≠ "java/lang/invoke/VarHandle" ∧ (parseMethodDescriptor yX0_at.desc).map (fun d => d.parameters.length) = some 1 := by decide +kernel
theorem hdX0_set : yX0_set.cls = RX0 ∧ yX0_set.cls ≠ "java/lang/invoke/MethodHandle" ∧ yX0_set.cls ≠ "java/lang/invoke/VarHandle" ∧ (parseMethodDescriptor yX0_set.desc).map (fun d => d.parameters.length) = some 2 := by decide +kernel
theorem hdX0_size : yX0_size.cls = RX0 ∧ yX0_size.cls ≠ "java/lang/invoke/MethodHandle" ∧ yX0_size.cls ≠ "java/lang/invoke/VarHandle" ∧ (parseMethodDescriptor yX0_size.desc).map (fun d => d.parameters.length) = some 0 := by decide +kernel
abbrev mt_X0_size_rm : Room := { frames := 0, cells := 0, slots := 0, locals := 0 }
set_option maxHeartbeats 4000000 in
set_option maxRecDepth 100000 in
/-- Row.size() -/
theorem mt_X0_size (l : Launch) (dC : Nat → ClassId) (dI : Nat → Nat → Nat) (cA : ClassId) (sz : Nat) (h : Nat) (a : Nat) (n : Int32) (f : Nat → Int32) : Met l yX0_size wsX0_size mt_X0_size_rm (va_Pc [.ref h] (gB (dC, dI) [(cA, .int)] [(h, .inr (0, [.ref a, .int n])), (a, .inl (cA, (100, .inl f)))] sz)) (gR (some (.int n))) 0 0 (fun _ => False) := by
  refine g_ofR (cc := cX0_size) (maxL := 1) (ret := (some .int)) (by decide) rfl (Nat.le_of_ble_eq_true rfl) (fun p e s m below meth c ls hx hb hr hml hts hown hlocks hP hK hl hD => ?_)
  have hS : va_S (fun _ => True) s.heap s.heap [] := va_S.rf
  have hl : lv_has ls 1 [(0, .ref h)] := hl
  refine lv_aload_n hx hb dX0_size_0 rfl (lv_at hl 0 rfl) ?_
  refine va_get (D := (dC, dI)) (ci := 0) (v := .int n) (C := RX0) (T := TX0) (N := 2) hx hb hts (in_X0_size_0) hown hK hP 0 rfl rfl 1 (by decide) (hts (.fieldLink RX0 15 "BraidWords$Row" "size" "I") (List.mem_of_getElem? (i := 1) rfl)) (fun _ h9 => h9) rfl dX0_size_1 ?_
  exact g_endRi hx hb hr hlocks dX0_size_4 rfl

abbrev mt_X0_at_rm : Room := { frames := 0, cells := 0, slots := 0, locals := 0 }
set_option maxHeartbeats 4000000 in
set_option maxRecDepth 100000 in
/-- Row.at(k) -/
theorem mt_X0_at (l : Launch) (dC : Nat → ClassId) (dI : Nat → Nat → Nat) (cA : ClassId) (sz : Nat) (h : Nat) (a : Nat) (L : List Int32) (f : Nat → Int32) (k : Nat) (hR : RI L f) (hk : k < 1000) : Met l yX0_at wsX0_at mt_X0_at_rm (va_Pc [.ref h, .int (nI k)] (gB (dC, dI) [(cA, .int)] [(h, .inr (0, [.ref a, .int (nI L.length)])), (a, .inl (cA, (100, .inl f)))] sz)) (gR (some (.int (atL L k)))) 0 0 (fun _ => False) := by
  refine g_ofR (cc := cX0_at) (maxL := 2) (ret := (some .int)) (by decide) rfl (Nat.le_of_ble_eq_true rfl) (fun p e s m below meth c ls hx hb hr hml hts hown hlocks hP hK hl hD => ?_)
  have hS : va_S (fun _ => True) s.heap s.heap [] := va_S.rf
  have hl : lv_has ls 2 [(0, .ref h), (1, .int (nI k))] := hl
  have hL := hR.1
  refine lv_iload_n hx hb dX0_at_0 rfl (lv_at hl 1 rfl) ?_
  refine lv_if_lt (tgt := 21) hx hb dX0_at_1 (by decide) (fun c1 => ?_) (fun c1 => ?_)
  · exact absurd (g_ltT k 0 (by omega) (by omega) c1) (by omega)
  · have c1 : 0 ≤ k := g_ltF k 0 (by omega) (by omega) c1
    refine lv_iload_n hx hb dX0_at_4 rfl (lv_at hl 1 rfl) ?_
    refine lv_aload_n hx hb dX0_at_5 rfl (lv_at hl 0 rfl) ?_
    refine va_get (D := (dC, dI)) (ci := 0) (v := .int (nI L.length)) (C := RX0) (T := TX0) (N := 2) hx hb hts (in_X0_at_0) hown hK hP 0 rfl rfl 1 (by decide) (hts (.fieldLink RX0 15 "BraidWords$Row" "size" "I") (List.mem_of_getElem? (i := 1) rfl)) (fun _ h9 => h9) rfl dX0_at_6 ?_
    refine lv_icmp_ge (tgt := 21) hx hb dX0_at_9 (by decide) (fun c9 => ?_) (fun c9 => ?_)
    · have c9 : L.length ≤ k := g_geT k L.length (by omega) (by omega) c9
      refine lv_iconst (v := 0) hx hb dX0_at_21 (by decide) ?_
      exact g_endRi hx hb hr hlocks dX0_at_22 ((atL_out (by omega)).symm)
    · have c9 : k < L.length := g_geF k L.length (by omega) (by omega) c9
      refine lv_iload_n hx hb dX0_at_12 rfl (lv_at hl 1 rfl) ?_
      refine lv_aload_n hx hb dX0_at_13 rfl (lv_at hl 0 rfl) ?_
      refine va_get (D := (dC, dI)) (ci := 0) (v := .ref a) (C := RX0) (T := TX0) (N := 2) hx hb hts (in_X0_at_0) hown hK hP 0 rfl rfl 0 (by decide) (hts (.fieldLink RX0 9 "BraidWords$Row" "letters" "[I") (List.mem_of_getElem? (i := 2) rfl)) (fun _ h9 => h9) rfl dX0_at_14 ?_
      refine va_alen (v := 100) hx hb hK hP 1 0 rfl rfl rfl dX0_at_17 ?_
      refine lv_icmp_lt (tgt := 23) hx hb dX0_at_18 (by decide) (fun c18 => ?_) (fun c18 => ?_)
      · have c18 : k < 100 := g_ltT k 100 (by omega) (by omega) c18
        refine lv_aload_n hx hb dX0_at_23 rfl (lv_at hl 0 rfl) ?_
        refine va_get (D := (dC, dI)) (ci := 0) (v := .ref a) (C := RX0) (T := TX0) (N := 2) hx hb hts (in_X0_at_0) hown hK hP 0 rfl rfl 0 (by decide) (hts (.fieldLink RX0 9 "BraidWords$Row" "letters" "[I") (List.mem_of_getElem? (i := 2) rfl)) (fun _ h9 => h9) rfl dX0_at_24 ?_
        refine lv_iload_n hx hb dX0_at_27 rfl (lv_at hl 1 rfl) ?_
        refine va_iald hx hb hK hP 1 0 rfl rfl (vp_in_nI (by omega) (by decide)) dX0_at_28 ?_
        rw [show (nI k).toNatClampNeg = k from nI_clamp (by omega)]
        exact g_endRi hx hb hr hlocks dX0_at_29 (hR.2 k (by omega))
      · have c18 : 100 ≤ k := g_ltF k 100 (by omega) (by omega) c18
        refine lv_iconst (v := 0) hx hb dX0_at_21 (by decide) ?_
        exact g_endRi hx hb hr hlocks dX0_at_22 ((atL_out (by omega)).symm)

abbrev mt_X0_set_rm : Room := { frames := 0, cells := 0, slots := 0, locals := 0 }
set_option maxHeartbeats 4000000 in
set_option maxRecDepth 100000 in
/-- Row.set(k, x), k a place -/
theorem mt_X0_set (l : Launch) (dC : Nat → ClassId) (dI : Nat → Nat → Nat) (cA : ClassId) (sz : Nat) (h : Nat) (a : Nat) (L : List Int32) (f : Nat → Int32) (k : Nat) (x : Int32) (hR : RI L f) (hk : k < L.length) : Met l yX0_set wsX0_set mt_X0_set_rm (va_Pc [.ref h, .int (nI k), .int x] (gB (dC, dI) [(cA, .int)] [(h, .inr (0, [.ref a, .int (nI L.length)])), (a, .inl (cA, (100, .inl f)))] sz)) (gM (dC, dI) none (fun u : (Nat → Int32) => RI (L.set k x) u) (fun u : (Nat → Int32) => [(h, .inr (0, [.ref a, .int (nI ((L.set k x).length))])), (a, .inl (cA, (100, .inl u)))]) (va_A [(h, .inr (0, [.ref a, .int (nI L.length)])), (a, .inl (cA, (100, .inl f)))] sz)) 0 0 (va_A [(h, .inr (0, [.ref a, .int (nI L.length)])), (a, .inl (cA, (100, .inl f)))] sz) := by
  refine g_ofM (cc := cX0_set) (maxL := 3) (ret := none) (by decide) rfl (Nat.le_of_ble_eq_true rfl) (fun p e s m below meth c ls hx hb hr hml hts hown hlocks hP hK hl hin A hA hD hS => ?_)
  have hl : lv_has ls 3 [(0, .ref h), (1, .int (nI k)), (2, .int x)] := hl
  have hL := hR.1
  refine lv_iload_n hx hb dX0_set_0 rfl (lv_at hl 1 rfl) ?_
  refine lv_if_lt (tgt := 28) hx hb dX0_set_1 (by decide) (fun c1 => ?_) (fun c1 => ?_)
  · exact absurd (g_ltT k 0 (by omega) (by omega) c1) (by omega)
  · have c1 : 0 ≤ k := g_ltF k 0 (by omega) (by omega) c1
    refine lv_iload_n hx hb dX0_set_4 rfl (lv_at hl 1 rfl) ?_
    refine lv_aload_n hx hb dX0_set_5 rfl (lv_at hl 0 rfl) ?_
    refine va_get (D := (dC, dI)) (ci := 0) (v := .int (nI L.length)) (C := RX0) (T := TX0) (N := 2) hx hb hts (in_X0_set_0) hown hK hP 0 rfl rfl 1 (by decide) (hts (.fieldLink RX0 15 "BraidWords$Row" "size" "I") (List.mem_of_getElem? (i := 1) rfl)) (fun _ h9 => h9) rfl dX0_set_6 ?_
    refine lv_icmp_ge (tgt := 28) hx hb dX0_set_9 (by decide) (fun c9 => ?_) (fun c9 => ?_)
    · exact absurd (g_geT k L.length (by omega) (by omega) c9) (by omega)
    · have c9 : k < L.length := g_geF k L.length (by omega) (by omega) c9
      refine lv_iload_n hx hb dX0_set_12 rfl (lv_at hl 1 rfl) ?_
      refine lv_aload_n hx hb dX0_set_13 rfl (lv_at hl 0 rfl) ?_
      refine va_get (D := (dC, dI)) (ci := 0) (v := .ref a) (C := RX0) (T := TX0) (N := 2) hx hb hts (in_X0_set_0) hown hK hP 0 rfl rfl 0 (by decide) (hts (.fieldLink RX0 9 "BraidWords$Row" "letters" "[I") (List.mem_of_getElem? (i := 2) rfl)) (fun _ h9 => h9) rfl dX0_set_14 ?_
      refine va_alen (v := 100) hx hb hK hP 1 0 rfl rfl rfl dX0_set_17 ?_
      refine lv_icmp_ge (tgt := 28) hx hb dX0_set_18 (by decide) (fun c18 => ?_) (fun c18 => ?_)
      · exact absurd (g_geT k 100 (by omega) (by omega) c18) (by omega)
      · have c18 : k < 100 := g_geF k 100 (by omega) (by omega) c18
        refine lv_aload_n hx hb dX0_set_21 rfl (lv_at hl 0 rfl) ?_
        refine va_get (D := (dC, dI)) (ci := 0) (v := .ref a) (C := RX0) (T := TX0) (N := 2) hx hb hts (in_X0_set_0) hown hK hP 0 rfl rfl 0 (by decide) (hts (.fieldLink RX0 9 "BraidWords$Row" "letters" "[I") (List.mem_of_getElem? (i := 2) rfl)) (fun _ h9 => h9) rfl dX0_set_22 ?_
        refine lv_iload_n hx hb dX0_set_25 rfl (lv_at hl 1 rfl) ?_
        refine lv_iload_n hx hb dX0_set_26 rfl (lv_at hl 2 rfl) ?_
        refine va_iast hx hb hK hP hD hS 1 0 rfl rfl (vp_in_nI (by omega) (by decide)) dX0_set_27 (fun H locs hP hD hS => ?_)
        rw [show (nI k).toNatClampNeg = k from nI_clamp (by omega)] at hP hD
        have hP : va_P (dC, dI) vwCl [(h, .inr (0, [.ref a, .int (nI L.length)])), (a, .inl (cA, (100, .inl (upd f k x))))] H := hP
        have hD : va_D A [(h, .inr (0, [.ref a, .int (nI L.length)])), (a, .inl (cA, (100, .inl (upd f k x))))] := hD
        rw [show L.length = (L.set k x).length from (List.length_set).symm] at hP
        exact g_endMv hx hb hr hlocks hP hS dX0_set_28 (upd f k x) rfl (RI_set hR (by omega))

abbrev mt_X0_add_rm : Room := { frames := 0, cells := 0, slots := 0, locals := 0 }
set_option maxHeartbeats 4000000 in
set_option maxRecDepth 100000 in
/-- Row.add(x), where there is room -/
theorem mt_X0_add (l : Launch) (dC : Nat → ClassId) (dI : Nat → Nat → Nat) (cA : ClassId) (sz : Nat) (h : Nat) (a : Nat) (L : List Int32) (f : Nat → Int32) (x : Int32) (hR : RI L f) (hk : L.length < 100) : Met l yX0_add wsX0_add mt_X0_add_rm (va_Pc [.ref h, .int x] (gB (dC, dI) [(cA, .int)] [(h, .inr (0, [.ref a, .int (nI L.length)])), (a, .inl (cA, (100, .inl f)))] sz)) (gM (dC, dI) none (fun u : (Nat → Int32) => RI (L ++ [x]) u) (fun u : (Nat → Int32) => [(h, .inr (0, [.ref a, .int (nI ((L ++ [x]).length))])), (a, .inl (cA, (100, .inl u)))]) (va_A [(h, .inr (0, [.ref a, .int (nI L.length)])), (a, .inl (cA, (100, .inl f)))] sz)) 0 0 (va_A [(h, .inr (0, [.ref a, .int (nI L.length)])), (a, .inl (cA, (100, .inl f)))] sz) := by
  refine g_ofM (cc := cX0_add) (maxL := 2) (ret := none) (by decide) rfl (Nat.le_of_ble_eq_true rfl) (fun p e s m below meth c ls hx hb hr hml hts hown hlocks hP hK hl hin A hA hD hS => ?_)
  have hl : lv_has ls 2 [(0, .ref h), (1, .int x)] := hl
  have hL := hR.1
  refine lv_aload_n hx hb dX0_add_0 rfl (lv_at hl 0 rfl) ?_
  refine va_get (D := (dC, dI)) (ci := 0) (v := .int (nI L.length)) (C := RX0) (T := TX0) (N := 2) hx hb hts (in_X0_add_0) hown hK hP 0 rfl rfl 1 (by decide) (hts (.fieldLink RX0 15 "BraidWords$Row" "size" "I") (List.mem_of_getElem? (i := 1) rfl)) (fun _ h9 => h9) rfl dX0_add_1 ?_
  refine lv_if_lt (tgt := 39) hx hb dX0_add_4 (by decide) (fun c4 => ?_) (fun c4 => ?_)
  · exact absurd (g_ltT L.length 0 (by omega) (by omega) c4) (by omega)
  · have c4 : 0 ≤ L.length := g_ltF L.length 0 (by omega) (by omega) c4
    refine lv_aload_n hx hb dX0_add_7 rfl (lv_at hl 0 rfl) ?_
    refine va_get (D := (dC, dI)) (ci := 0) (v := .int (nI L.length)) (C := RX0) (T := TX0) (N := 2) hx hb hts (in_X0_add_0) hown hK hP 0 rfl rfl 1 (by decide) (hts (.fieldLink RX0 15 "BraidWords$Row" "size" "I") (List.mem_of_getElem? (i := 1) rfl)) (fun _ h9 => h9) rfl dX0_add_8 ?_
    refine lv_aload_n hx hb dX0_add_11 rfl (lv_at hl 0 rfl) ?_
    refine va_get (D := (dC, dI)) (ci := 0) (v := .ref a) (C := RX0) (T := TX0) (N := 2) hx hb hts (in_X0_add_0) hown hK hP 0 rfl rfl 0 (by decide) (hts (.fieldLink RX0 9 "BraidWords$Row" "letters" "[I") (List.mem_of_getElem? (i := 2) rfl)) (fun _ h9 => h9) rfl dX0_add_12 ?_
    refine va_alen (v := 100) hx hb hK hP 1 0 rfl rfl rfl dX0_add_15 ?_
    refine lv_icmp_ge (tgt := 39) hx hb dX0_add_16 (by decide) (fun c16 => ?_) (fun c16 => ?_)
    · exact absurd (g_geT L.length 100 (by omega) (by omega) c16) (by omega)
    · have c16 : L.length < 100 := g_geF L.length 100 (by omega) (by omega) c16
      refine lv_aload_n hx hb dX0_add_19 rfl (lv_at hl 0 rfl) ?_
      refine va_get (D := (dC, dI)) (ci := 0) (v := .ref a) (C := RX0) (T := TX0) (N := 2) hx hb hts (in_X0_add_0) hown hK hP 0 rfl rfl 0 (by decide) (hts (.fieldLink RX0 9 "BraidWords$Row" "letters" "[I") (List.mem_of_getElem? (i := 2) rfl)) (fun _ h9 => h9) rfl dX0_add_20 ?_
      refine lv_aload_n hx hb dX0_add_23 rfl (lv_at hl 0 rfl) ?_
      refine va_get (D := (dC, dI)) (ci := 0) (v := .int (nI L.length)) (C := RX0) (T := TX0) (N := 2) hx hb hts (in_X0_add_0) hown hK hP 0 rfl rfl 1 (by decide) (hts (.fieldLink RX0 15 "BraidWords$Row" "size" "I") (List.mem_of_getElem? (i := 1) rfl)) (fun _ h9 => h9) rfl dX0_add_24 ?_
      refine lv_iload_n hx hb dX0_add_27 rfl (lv_at hl 1 rfl) ?_
      refine va_iast hx hb hK hP hD hS 1 0 rfl rfl (vp_in_nI (by omega) (by decide)) dX0_add_28 (fun H locs hP hD hS => ?_)
      rw [show (nI L.length).toNatClampNeg = L.length from nI_clamp (by omega)] at hP hD
      have hP : va_P (dC, dI) vwCl [(h, .inr (0, [.ref a, .int (nI L.length)])), (a, .inl (cA, (100, .inl (upd f L.length x))))] H := hP
      have hD : va_D A [(h, .inr (0, [.ref a, .int (nI L.length)])), (a, .inl (cA, (100, .inl (upd f L.length x))))] := hD
      refine lv_aload_n hx hb dX0_add_29 rfl (lv_at hl 0 rfl) ?_
      refine lv_dup hx hb dX0_add_30 rfl ?_
      refine va_get (D := (dC, dI)) (ci := 0) (v := .int (nI L.length)) (C := RX0) (T := TX0) (N := 2) hx hb hts (in_X0_add_0) hown hK hP 0 rfl rfl 1 (by decide) (hts (.fieldLink RX0 15 "BraidWords$Row" "size" "I") (List.mem_of_getElem? (i := 1) rfl)) (fun _ h9 => h9) rfl dX0_add_31 ?_
      refine lv_iconst (v := 1) hx hb dX0_add_34 (by decide) ?_
      refine lv_iadd hx hb dX0_add_35 ?_
      rw [show (nI L.length) + 1 = nI (L.length + 1) from nI_add L.length 1]
      refine va_put (D := (dC, dI)) (ci := 0) (v := .int (nI (L.length + 1))) (ty := .int) (C := RX0) (T := TX0) (N := 2) hx hb hts (in_X0_add_0) tyX0 tyX0_ok nmX0 hown hK hP hD hS 0 rfl rfl 1 (by decide) (hts (.fieldLink RX0 15 "BraidWords$Row" "size" "I") (List.mem_of_getElem? (i := 1) rfl)) (fun _ h9 => h9) rfl (by decide +kernel) rfl rfl (Nat.le_of_ble_eq_true rfl) dX0_add_36 (fun H locs hP hD hS => ?_)
      have hP : va_P (dC, dI) vwCl [(h, .inr (0, [.ref a, .int (nI (L.length + 1))])), (a, .inl (cA, (100, .inl (upd f L.length x))))] H := hP
      have hD : va_D A [(h, .inr (0, [.ref a, .int (nI (L.length + 1))])), (a, .inl (cA, (100, .inl (upd f L.length x))))] := hD
      rw [show L.length + 1 = (L ++ [x]).length from len_snoc.symm] at hP
      exact g_endMv hx hb hr hlocks hP hS dX0_add_39 (upd f L.length x) rfl (RI_push hR hk)

abbrev mt_X0_clear_rm : Room := { frames := 0, cells := 0, slots := 0, locals := 0 }
set_option maxHeartbeats 4000000 in
set_option maxRecDepth 100000 in
/-- Row.clear() -/
theorem mt_X0_clear (l : Launch) (dC : Nat → ClassId) (dI : Nat → Nat → Nat) (cA : ClassId) (sz : Nat) (h : Nat) (a : Nat) (n : Int32) (f : Nat → Int32) : Met l yX0_clear wsX0_clear mt_X0_clear_rm (va_Pc [.ref h] (gB (dC, dI) [(cA, .int)] [(h, .inr (0, [.ref a, .int n])), (a, .inl (cA, (100, .inl f)))] sz)) (gM (dC, dI) none (fun u : Unit => True) (fun u : Unit => [(h, .inr (0, [.ref a, .int (nI (([] : List Int32).length))])), (a, .inl (cA, (100, .inl f)))]) (va_A [(h, .inr (0, [.ref a, .int n])), (a, .inl (cA, (100, .inl f)))] sz)) 0 0 (va_A [(h, .inr (0, [.ref a, .int n])), (a, .inl (cA, (100, .inl f)))] sz) := by
  refine g_ofM (cc := cX0_clear) (maxL := 1) (ret := none) (by decide) rfl (Nat.le_of_ble_eq_true rfl) (fun p e s m below meth c ls hx hb hr hml hts hown hlocks hP hK hl hin A hA hD hS => ?_)
  have hl : lv_has ls 1 [(0, .ref h)] := hl
  refine lv_aload_n hx hb dX0_clear_0 rfl (lv_at hl 0 rfl) ?_
  refine lv_iconst (v := 0) hx hb dX0_clear_1 (by decide) ?_
  refine va_put (D := (dC, dI)) (ci := 0) (v := .int 0) (ty := .int) (C := RX0) (T := TX0) (N := 2) hx hb hts (in_X0_clear_0) tyX0 tyX0_ok nmX0 hown hK hP hD hS 0 rfl rfl 1 (by decide) (hts (.fieldLink RX0 15 "BraidWords$Row" "size" "I") (List.mem_of_getElem? (i := 1) rfl)) (fun _ h9 => h9) rfl (by decide +kernel) rfl rfl (Nat.le_of_ble_eq_true rfl) dX0_clear_2 (fun H locs hP hD hS => ?_)
  have hP : va_P (dC, dI) vwCl [(h, .inr (0, [.ref a, .int 0])), (a, .inl (cA, (100, .inl f)))] H := hP
  have hD : va_D A [(h, .inr (0, [.ref a, .int 0])), (a, .inl (cA, (100, .inl f)))] := hD
  exact g_endMv hx hb hr hlocks hP hS dX0_clear_5 () rfl trivial

abbrev mt_X0_dropLast_rm : Room := { frames := 0, cells := 0, slots := 0, locals := 0 }
set_option maxHeartbeats 4000000 in
set_option maxRecDepth 100000 in
/-- Row.dropLast(), where there is one -/
theorem mt_X0_dropLast (l : Launch) (dC : Nat → ClassId) (dI : Nat → Nat → Nat) (cA : ClassId) (sz : Nat) (h : Nat) (a : Nat) (L : List Int32) (f : Nat → Int32) (hR : RI L f) (hk : 0 < L.length) : Met l yX0_dropLast wsX0_dropLast mt_X0_dropLast_rm (va_Pc [.ref h] (gB (dC, dI) [(cA, .int)] [(h, .inr (0, [.ref a, .int (nI L.length)])), (a, .inl (cA, (100, .inl f)))] sz)) (gM (dC, dI) none (fun u : Unit => True) (fun u : Unit => [(h, .inr (0, [.ref a, .int (nI L.dropLast.length)])), (a, .inl (cA, (100, .inl f)))]) (va_A [(h, .inr (0, [.ref a, .int (nI L.length)])), (a, .inl (cA, (100, .inl f)))] sz)) 0 0 (va_A [(h, .inr (0, [.ref a, .int (nI L.length)])), (a, .inl (cA, (100, .inl f)))] sz) := by
  refine g_ofM (cc := cX0_dropLast) (maxL := 1) (ret := none) (by decide) rfl (Nat.le_of_ble_eq_true rfl) (fun p e s m below meth c ls hx hb hr hml hts hown hlocks hP hK hl hin A hA hD hS => ?_)
  have hl : lv_has ls 1 [(0, .ref h)] := hl
  have hL := hR.1
  refine lv_aload_n hx hb dX0_dropLast_0 rfl (lv_at hl 0 rfl) ?_
  refine va_get (D := (dC, dI)) (ci := 0) (v := .int (nI L.length)) (C := RX0) (T := TX0) (N := 2) hx hb hts (in_X0_dropLast_0) hown hK hP 0 rfl rfl 1 (by decide) (hts (.fieldLink RX0 15 "BraidWords$Row" "size" "I") (List.mem_of_getElem? (i := 1) rfl)) (fun _ h9 => h9) rfl dX0_dropLast_1 ?_
  refine lv_if_le (tgt := 17) hx hb dX0_dropLast_4 (by decide) (fun c4 => ?_) (fun c4 => ?_)
  · exact absurd (g_leT L.length 0 (by omega) (by omega) c4) (by omega)
  · have c4 : 0 < L.length := g_leF L.length 0 (by omega) (by omega) c4
    refine lv_aload_n hx hb dX0_dropLast_7 rfl (lv_at hl 0 rfl) ?_
    refine lv_dup hx hb dX0_dropLast_8 rfl ?_
    refine va_get (D := (dC, dI)) (ci := 0) (v := .int (nI L.length)) (C := RX0) (T := TX0) (N := 2) hx hb hts (in_X0_dropLast_0) hown hK hP 0 rfl rfl 1 (by decide) (hts (.fieldLink RX0 15 "BraidWords$Row" "size" "I") (List.mem_of_getElem? (i := 1) rfl)) (fun _ h9 => h9) rfl dX0_dropLast_9 ?_
    refine lv_iconst (v := 1) hx hb dX0_dropLast_12 (by decide) ?_
    refine lv_isub hx hb dX0_dropLast_13 ?_
    rw [plI_sub L.length]
    refine va_put (D := (dC, dI)) (ci := 0) (v := .int (plI L.length)) (ty := .int) (C := RX0) (T := TX0) (N := 2) hx hb hts (in_X0_dropLast_0) tyX0 tyX0_ok nmX0 hown hK hP hD hS 0 rfl rfl 1 (by decide) (hts (.fieldLink RX0 15 "BraidWords$Row" "size" "I") (List.mem_of_getElem? (i := 1) rfl)) (fun _ h9 => h9) rfl (by decide +kernel) rfl rfl (Nat.le_of_ble_eq_true rfl) dX0_dropLast_14 (fun H locs hP hD hS => ?_)
    have hP : va_P (dC, dI) vwCl [(h, .inr (0, [.ref a, .int (plI L.length)])), (a, .inl (cA, (100, .inl f)))] H := hP
    have hD : va_D A [(h, .inr (0, [.ref a, .int (plI L.length)])), (a, .inl (cA, (100, .inl f)))] := hD
    rw [show plI L.length = nI L.dropLast.length from by rw [List.length_dropLast]; cases hq : L.length with | zero => omega | succ z => rfl] at hP
    exact g_endMv hx hb hr hlocks hP hS dX0_dropLast_17 () rfl trivial

abbrev mt_X0_addAll_rm : Room := { frames := 1, cells := 0, slots := 0, locals := 21 }
set_option maxHeartbeats 4000000 in
set_option maxRecDepth 100000 in
/-- Row.addAll(other) -/
theorem mt_X0_addAll (l : Launch) (dC : Nat → ClassId) (dI : Nat → Nat → Nat) (cA : ClassId) (sz : Nat) (h : Nat) (a : Nat) (h2 : Nat) (a2 : Nat) (L : List Int32) (f : Nat → Int32) (M : List Int32) (f2 : Nat → Int32) (hR : RI L f) (hR2 : RI M f2) (hk : L.length + M.length ≤ 100) : Met l yX0_addAll wsX0_addAll mt_X0_addAll_rm (va_Pc [.ref h, .ref h2] (gB (dC, dI) [(cA, .int)] [(h, .inr (0, [.ref a, .int (nI L.length)])), (a, .inl (cA, (100, .inl f))), (h2, .inr (0, [.ref a2, .int (nI M.length)])), (a2, .inl (cA, (100, .inl f2)))] sz)) (gM (dC, dI) none (fun u : (Nat → Int32) => RI (L ++ M) u) (fun u : (Nat → Int32) => [(h, .inr (0, [.ref a, .int (nI ((L ++ M).length))])), (a, .inl (cA, (100, .inl u))), (h2, .inr (0, [.ref a2, .int (nI M.length)])), (a2, .inl (cA, (100, .inl f2)))]) (va_A [(h, .inr (0, [.ref a, .int (nI L.length)])), (a, .inl (cA, (100, .inl f))), (h2, .inr (0, [.ref a2, .int (nI M.length)])), (a2, .inl (cA, (100, .inl f2)))] sz)) 0 0 (va_A [(h, .inr (0, [.ref a, .int (nI L.length)])), (a, .inl (cA, (100, .inl f))), (h2, .inr (0, [.ref a2, .int (nI M.length)])), (a2, .inl (cA, (100, .inl f2)))] sz) := by
  refine g_ofM (cc := cX0_addAll) (maxL := 4) (ret := none) (by decide) rfl (Nat.le_of_ble_eq_true rfl) (fun p e s m below meth c ls hx hb hr hml hts hown hlocks hP hK hl hin A hA hD hS => ?_)
  have hl : lv_has ls 4 [(0, .ref h), (1, .ref h2)] := hl
  have hL := hR.1
  have hL2 := hR2.1
  refine lv_aload_n hx hb dX0_addAll_0 rfl (lv_at hl 1 rfl) ?_
  refine g_RVi (As := []) (rest := []) ⟨hx, hb, hml, hown, hts⟩ (mt_X0_size l dC dI cA s.heap.size h2 a2 (nI M.length) f2) (cwV 0 hts gX0_addAll_X0_size rfl rfl rfl hdX0_size ⟨Nat.le_of_ble_eq_true rfl, Nat.le_of_ble_eq_true rfl⟩) hP hK hD [2, 3] (by decide) rfl (va_recv hK hP (ci := 0) (q0 := 2) rfl rfl) rfl hl.1 rfl (Nat.le_of_ble_eq_true rfl) dX0_addAll_1 (Nat.zero_le _) (Nat.zero_le _) ?_
  refine lv_istore_n (lv' := [(2, .int (nI M.length)), (0, .ref h), (1, .ref h2)]) hx hb dX0_addAll_4 rfl hl (by decide) rfl (fun ls hl => ?_)
  refine lv_iconst (v := 0) hx hb dX0_addAll_5 (by decide) ?_
  refine lv_istore_n (lv' := [(3, .int 0), (2, .int (nI M.length)), (0, .ref h), (1, .ref h2)]) hx hb dX0_addAll_6 rfl hl (by decide) rfl (fun ls hl => ?_)
  have lp7 : ∀ (d : Nat) (k : Nat) (Lk : List Int32) (f1 : Nat → Int32) (hk1 : k ≤ M.length) (hLk : Lk = L ++ M.take k) (hR1 : RI Lk f1), M.length - k < d → ∀ (H : Heap) (locs : List Loc), va_P (dC, dI) vwCl [(h, .inr (0, [.ref a, .int (nI Lk.length)])), (a, .inl (cA, (100, .inl f1))), (h2, .inr (0, [.ref a2, .int (nI M.length)])), (a2, .inl (cA, (100, .inl f2)))] H → va_D A [(h, .inr (0, [.ref a, .int (nI Lk.length)])), (a, .inl (cA, (100, .inl f1))), (h2, .inr (0, [.ref a2, .int (nI M.length)])), (a2, .inl (cA, (100, .inl f2)))] → va_S A s.heap H locs → ∀ ls : Array Slot, lv_has ls 4 [(3, .int (nI k)), (2, .int (nI M.length)), (0, .ref h), (1, .ref h2)] → W p l e mt_X0_addAll_rm s m ([.ref h, .ref h2] : List Value).toArray below meth c H locs 0 0 (MQ below (gM (dC, dI) none (fun u : (Nat → Int32) => RI (L ++ M) u) (fun u : (Nat → Int32) => [(h, .inr (0, [.ref a, .int (nI ((L ++ M).length))])), (a, .inl (cA, (100, .inl u))), (h2, .inr (0, [.ref a2, .int (nI M.length)])), (a2, .inl (cA, (100, .inl f2)))]) A) ([.ref h, .ref h2] : List Value).toArray s 0 0 A) (F0 m 7 ls []) := by
    intro d
    induction d with
    | zero => intro k Lk f1 hk1 hLk hR1 hd; exact absurd hd (Nat.not_lt_zero _)
    | succ d ih7 =>
      intro k Lk f1 hk1 hLk hR1 hd H locs hP hD hS ls hl
      refine lv_iload_n hx hb dX0_addAll_7 rfl (lv_at hl 0 rfl) ?_
      refine lv_iload_n hx hb dX0_addAll_8 rfl (lv_at hl 1 rfl) ?_
      refine lv_icmp_ge (tgt := 27) hx hb dX0_addAll_9 (by decide) (fun c9 => ?_) (fun c9 => ?_)
      · have c9 : M.length ≤ k := g_geT k M.length (by omega) (by omega) c9
        obtain rfl : Lk = L ++ M := by rw [hLk, List.take_of_length_le (by omega)]
        exact g_endMv hx hb hr hlocks hP hS dX0_addAll_27 f1 rfl hR1
      · have c9 : k < M.length := g_geF k M.length (by omega) (by omega) c9
        have hlk : Lk.length = L.length + k := by rw [hLk]; simp; omega
        refine lv_aload_n hx hb dX0_addAll_12 rfl (lv_at hl 2 rfl) ?_
        refine lv_aload_n hx hb dX0_addAll_13 rfl (lv_at hl 3 rfl) ?_
        refine lv_iload_n hx hb dX0_addAll_14 rfl (lv_at hl 0 rfl) ?_
        refine g_RVi (As := [.int (nI k)]) (rest := [.ref h]) ⟨hx, hb, hml, hown, hts⟩ (mt_X0_at l dC dI cA H.size h2 a2 M f2 k hR2 (by first | omega | (simp only [List.length_append, List.length_cons, List.length_nil, List.length_set, turnL_len]; omega))) (cwV 1 hts gX0_addAll_X0_at rfl rfl rfl hdX0_at ⟨Nat.le_of_ble_eq_true rfl, Nat.le_of_ble_eq_true rfl⟩) hP hK hD [2, 3] (by decide) rfl (va_recv hK hP (ci := 0) (q0 := 2) rfl rfl) rfl hl.1 rfl (Nat.le_of_ble_eq_true rfl) dX0_addAll_15 (Nat.zero_le _) (Nat.zero_le _) ?_
        refine g_MVv (As := [.int (atL M k)]) (rest := []) ⟨hx, hb, hml, hown, hts⟩ (mt_X0_add l dC dI cA H.size h a Lk f1 (atL M k) hR1 (by first | omega | (simp only [List.length_append, List.length_cons, List.length_nil, List.length_set, turnL_len]; omega))) (cwV 1 hts gX0_addAll_X0_add rfl rfl rfl hdX0_add ⟨Nat.le_of_ble_eq_true rfl, Nat.le_of_ble_eq_true rfl⟩) hP hK hD hS hA [0, 1] (by decide) rfl (va_recv hK hP (ci := 0) (q0 := 0) rfl rfl) rfl hl.1 rfl (Nat.le_of_ble_eq_true rfl) dX0_addAll_18 (Nat.zero_le _) (Nat.zero_le _) (fun u9 => [(h, .inr (0, [.ref a, .int (nI ((Lk ++ [(atL M k)]).length))])), (a, .inl (cA, (100, .inl u9))), (h2, .inr (0, [.ref a2, .int (nI M.length)])), (a2, .inl (cA, (100, .inl f2)))]) (fun _ => rfl) (fun _ => rfl) (fun u H locs hw_2 hP hD hS => ?_)
        obtain ⟨f1_1, rfl⟩ : ∃ z, z = u := ⟨_, rfl⟩
        have hw_2 : RI (Lk ++ [(atL M k)]) f1_1 := hw_2
        have hP : va_P (dC, dI) vwCl [(h, .inr (0, [.ref a, .int (nI ((Lk ++ [(atL M k)]).length))])), (a, .inl (cA, (100, .inl f1_1))), (h2, .inr (0, [.ref a2, .int (nI M.length)])), (a2, .inl (cA, (100, .inl f2)))] H := hP
        have hD : va_D A [(h, .inr (0, [.ref a, .int (nI ((Lk ++ [(atL M k)]).length))])), (a, .inl (cA, (100, .inl f1_1))), (h2, .inr (0, [.ref a2, .int (nI M.length)])), (a2, .inl (cA, (100, .inl f2)))] := hD
        refine lv_iinc (v := nI (k + 1)) (lv' := [(3, .int (nI (k + 1))), (2, .int (nI M.length)), (0, .ref h), (1, .ref h2)]) hx hb dX0_addAll_21 hl (k := 0) rfl (g_inc _) (by decide) rfl (fun ls hl => ?_)
        refine lv_goto (tgt := 7) hx hb dX0_addAll_24 (by decide) ?_
        exact ih7 (k + 1) (Lk ++ [(atL M k)]) f1_1 (by omega) (by rw [hLk, List.append_assoc, take_snoc (by omega)]) hw_2 (by omega) _ _ hP hD hS _ (lv_sub hl [0, 1, 2, 3] rfl)
  exact lp7 ((M.length - 0) + 1) 0 L f (Nat.zero_le _) (by simp) hR (Nat.lt_succ_self _) _ _ hP hD hS _ (lv_sub hl [0, 1, 2, 3] rfl)

abbrev mt_X0_copy_rm : Room := { frames := 1, cells := 0, slots := 0, locals := 21 }
set_option maxHeartbeats 4000000 in
set_option maxRecDepth 100000 in
/-- Row.copy(other) -/
theorem mt_X0_copy (l : Launch) (dC : Nat → ClassId) (dI : Nat → Nat → Nat) (cA : ClassId) (sz : Nat) (h : Nat) (a : Nat) (h2 : Nat) (a2 : Nat) (n : Int32) (f : Nat → Int32) (M : List Int32) (f2 : Nat → Int32) (hR2 : RI M f2) : Met l yX0_copy wsX0_copy mt_X0_copy_rm (va_Pc [.ref h, .ref h2] (gB (dC, dI) [(cA, .int)] [(h, .inr (0, [.ref a, .int n])), (a, .inl (cA, (100, .inl f))), (h2, .inr (0, [.ref a2, .int (nI M.length)])), (a2, .inl (cA, (100, .inl f2)))] sz)) (gM (dC, dI) none (fun u : (Nat → Int32) => RI M u) (fun u : (Nat → Int32) => [(h, .inr (0, [.ref a, .int (nI M.length)])), (a, .inl (cA, (100, .inl u))), (h2, .inr (0, [.ref a2, .int (nI M.length)])), (a2, .inl (cA, (100, .inl f2)))]) (va_A [(h, .inr (0, [.ref a, .int n])), (a, .inl (cA, (100, .inl f))), (h2, .inr (0, [.ref a2, .int (nI M.length)])), (a2, .inl (cA, (100, .inl f2)))] sz)) 0 0 (va_A [(h, .inr (0, [.ref a, .int n])), (a, .inl (cA, (100, .inl f))), (h2, .inr (0, [.ref a2, .int (nI M.length)])), (a2, .inl (cA, (100, .inl f2)))] sz) := by
  refine g_ofM (cc := cX0_copy) (maxL := 4) (ret := none) (by decide) rfl (Nat.le_of_ble_eq_true rfl) (fun p e s m below meth c ls hx hb hr hml hts hown hlocks hP hK hl hin A hA hD hS => ?_)
  have hl : lv_has ls 4 [(0, .ref h), (1, .ref h2)] := hl
  have hL2 := hR2.1
  refine lv_aload_n hx hb dX0_copy_0 rfl (lv_at hl 0 rfl) ?_
  refine lv_iconst (v := 0) hx hb dX0_copy_1 (by decide) ?_
  refine va_put (D := (dC, dI)) (ci := 0) (v := .int 0) (ty := .int) (C := RX0) (T := TX0) (N := 2) hx hb hts (in_X0_copy_0) tyX0 tyX0_ok nmX0 hown hK hP hD hS 0 rfl rfl 1 (by decide) (hts (.fieldLink RX0 15 "BraidWords$Row" "size" "I") (List.mem_of_getElem? (i := 1) rfl)) (fun _ h9 => h9) rfl (by decide +kernel) rfl rfl (Nat.le_of_ble_eq_true rfl) dX0_copy_2 (fun H locs hP hD hS => ?_)
  have hP : va_P (dC, dI) vwCl [(h, .inr (0, [.ref a, .int 0])), (a, .inl (cA, (100, .inl f))), (h2, .inr (0, [.ref a2, .int (nI M.length)])), (a2, .inl (cA, (100, .inl f2)))] H := hP
  have hD : va_D A [(h, .inr (0, [.ref a, .int 0])), (a, .inl (cA, (100, .inl f))), (h2, .inr (0, [.ref a2, .int (nI M.length)])), (a2, .inl (cA, (100, .inl f2)))] := hD
  refine lv_aload_n hx hb dX0_copy_5 rfl (lv_at hl 1 rfl) ?_
  refine g_RVi (As := []) (rest := []) ⟨hx, hb, hml, hown, hts⟩ (mt_X0_size l dC dI cA H.size h2 a2 (nI M.length) f2) (cwV 0 hts gX0_copy_X0_size rfl rfl rfl hdX0_size ⟨Nat.le_of_ble_eq_true rfl, Nat.le_of_ble_eq_true rfl⟩) hP hK hD [2, 3] (by decide) rfl (va_recv hK hP (ci := 0) (q0 := 2) rfl rfl) rfl hl.1 rfl (Nat.le_of_ble_eq_true rfl) dX0_copy_6 (Nat.zero_le _) (Nat.zero_le _) ?_
  refine lv_istore_n (lv' := [(2, .int (nI M.length)), (0, .ref h), (1, .ref h2)]) hx hb dX0_copy_9 rfl hl (by decide) rfl (fun ls hl => ?_)
  refine lv_iconst (v := 0) hx hb dX0_copy_10 (by decide) ?_
  refine lv_istore_n (lv' := [(3, .int 0), (2, .int (nI M.length)), (0, .ref h), (1, .ref h2)]) hx hb dX0_copy_11 rfl hl (by decide) rfl (fun ls hl => ?_)
  have lp12 : ∀ (d : Nat) (k : Nat) (Lk : List Int32) (f1 : Nat → Int32) (hk1 : k ≤ M.length) (hLk : Lk = M.take k) (hR1 : RI Lk f1), M.length - k < d → ∀ (H : Heap) (locs : List Loc), va_P (dC, dI) vwCl [(h, .inr (0, [.ref a, .int (nI Lk.length)])), (a, .inl (cA, (100, .inl f1))), (h2, .inr (0, [.ref a2, .int (nI M.length)])), (a2, .inl (cA, (100, .inl f2)))] H → va_D A [(h, .inr (0, [.ref a, .int (nI Lk.length)])), (a, .inl (cA, (100, .inl f1))), (h2, .inr (0, [.ref a2, .int (nI M.length)])), (a2, .inl (cA, (100, .inl f2)))] → va_S A s.heap H locs → ∀ ls : Array Slot, lv_has ls 4 [(3, .int (nI k)), (2, .int (nI M.length)), (0, .ref h), (1, .ref h2)] → W p l e mt_X0_copy_rm s m ([.ref h, .ref h2] : List Value).toArray below meth c H locs 0 0 (MQ below (gM (dC, dI) none (fun u : (Nat → Int32) => RI M u) (fun u : (Nat → Int32) => [(h, .inr (0, [.ref a, .int (nI M.length)])), (a, .inl (cA, (100, .inl u))), (h2, .inr (0, [.ref a2, .int (nI M.length)])), (a2, .inl (cA, (100, .inl f2)))]) A) ([.ref h, .ref h2] : List Value).toArray s 0 0 A) (F0 m 12 ls []) := by
    intro d
    induction d with
    | zero => intro k Lk f1 hk1 hLk hR1 hd; exact absurd hd (Nat.not_lt_zero _)
    | succ d ih12 =>
      intro k Lk f1 hk1 hLk hR1 hd H locs hP hD hS ls hl
      refine lv_iload_n hx hb dX0_copy_12 rfl (lv_at hl 0 rfl) ?_
      refine lv_iload_n hx hb dX0_copy_13 rfl (lv_at hl 1 rfl) ?_
      refine lv_icmp_ge (tgt := 32) hx hb dX0_copy_14 (by decide) (fun c14 => ?_) (fun c14 => ?_)
      · have c14 : M.length ≤ k := g_geT k M.length (by omega) (by omega) c14
        obtain rfl : Lk = M := by rw [hLk, List.take_of_length_le (by omega)]
        exact g_endMv hx hb hr hlocks hP hS dX0_copy_32 f1 rfl hR1
      · have c14 : k < M.length := g_geF k M.length (by omega) (by omega) c14
        have hlk : Lk.length = k := by rw [hLk]; simp; omega
        refine lv_aload_n hx hb dX0_copy_17 rfl (lv_at hl 2 rfl) ?_
        refine lv_aload_n hx hb dX0_copy_18 rfl (lv_at hl 3 rfl) ?_
        refine lv_iload_n hx hb dX0_copy_19 rfl (lv_at hl 0 rfl) ?_
        refine g_RVi (As := [.int (nI k)]) (rest := [.ref h]) ⟨hx, hb, hml, hown, hts⟩ (mt_X0_at l dC dI cA H.size h2 a2 M f2 k hR2 (by first | omega | (simp only [List.length_append, List.length_cons, List.length_nil, List.length_set, turnL_len]; omega))) (cwV 1 hts gX0_copy_X0_at rfl rfl rfl hdX0_at ⟨Nat.le_of_ble_eq_true rfl, Nat.le_of_ble_eq_true rfl⟩) hP hK hD [2, 3] (by decide) rfl (va_recv hK hP (ci := 0) (q0 := 2) rfl rfl) rfl hl.1 rfl (Nat.le_of_ble_eq_true rfl) dX0_copy_20 (Nat.zero_le _) (Nat.zero_le _) ?_
        refine g_MVv (As := [.int (atL M k)]) (rest := []) ⟨hx, hb, hml, hown, hts⟩ (mt_X0_add l dC dI cA H.size h a Lk f1 (atL M k) hR1 (by first | omega | (simp only [List.length_append, List.length_cons, List.length_nil, List.length_set, turnL_len]; omega))) (cwV 1 hts gX0_copy_X0_add rfl rfl rfl hdX0_add ⟨Nat.le_of_ble_eq_true rfl, Nat.le_of_ble_eq_true rfl⟩) hP hK hD hS hA [0, 1] (by decide) rfl (va_recv hK hP (ci := 0) (q0 := 0) rfl rfl) rfl hl.1 rfl (Nat.le_of_ble_eq_true rfl) dX0_copy_23 (Nat.zero_le _) (Nat.zero_le _) (fun u9 => [(h, .inr (0, [.ref a, .int (nI ((Lk ++ [(atL M k)]).length))])), (a, .inl (cA, (100, .inl u9))), (h2, .inr (0, [.ref a2, .int (nI M.length)])), (a2, .inl (cA, (100, .inl f2)))]) (fun _ => rfl) (fun _ => rfl) (fun u H locs hw_2 hP hD hS => ?_)
        obtain ⟨f1_1, rfl⟩ : ∃ z, z = u := ⟨_, rfl⟩
        have hw_2 : RI (Lk ++ [(atL M k)]) f1_1 := hw_2
        have hP : va_P (dC, dI) vwCl [(h, .inr (0, [.ref a, .int (nI ((Lk ++ [(atL M k)]).length))])), (a, .inl (cA, (100, .inl f1_1))), (h2, .inr (0, [.ref a2, .int (nI M.length)])), (a2, .inl (cA, (100, .inl f2)))] H := hP
        have hD : va_D A [(h, .inr (0, [.ref a, .int (nI ((Lk ++ [(atL M k)]).length))])), (a, .inl (cA, (100, .inl f1_1))), (h2, .inr (0, [.ref a2, .int (nI M.length)])), (a2, .inl (cA, (100, .inl f2)))] := hD
        refine lv_iinc (v := nI (k + 1)) (lv' := [(3, .int (nI (k + 1))), (2, .int (nI M.length)), (0, .ref h), (1, .ref h2)]) hx hb dX0_copy_26 hl (k := 0) rfl (g_inc _) (by decide) rfl (fun ls hl => ?_)
        refine lv_goto (tgt := 12) hx hb dX0_copy_29 (by decide) ?_
        exact ih12 (k + 1) (Lk ++ [(atL M k)]) f1_1 (by omega) (by rw [hLk, take_snoc (by omega)]) hw_2 (by omega) _ _ hP hD hS _ (lv_sub hl [0, 1, 2, 3] rfl)
  exact lp12 ((M.length - 0) + 1) 0 ([] : List Int32) f (Nat.zero_le _) rfl RI_nil (Nat.lt_succ_self _) _ _ hP hD hS _ (lv_sub hl [0, 1, 2, 3] rfl)

abbrev mt_X0_addTurnedRound_rm : Room := { frames := 1, cells := 0, slots := 0, locals := 21 }
set_option maxHeartbeats 4000000 in
set_option maxRecDepth 100000 in
/-- Row.addTurnedRound(other) -/
theorem mt_X0_addTurnedRound (l : Launch) (dC : Nat → ClassId) (dI : Nat → Nat → Nat) (cA : ClassId) (sz : Nat) (h : Nat) (a : Nat) (h2 : Nat) (a2 : Nat) (L : List Int32) (f : Nat → Int32) (M : List Int32) (f2 : Nat → Int32) (hR : RI L f) (hR2 : RI M f2) (hk : L.length + M.length ≤ 100) : Met l yX0_addTurnedRound wsX0_addTurnedRound mt_X0_addTurnedRound_rm (va_Pc [.ref h, .ref h2] (gB (dC, dI) [(cA, .int)] [(h, .inr (0, [.ref a, .int (nI L.length)])), (a, .inl (cA, (100, .inl f))), (h2, .inr (0, [.ref a2, .int (nI M.length)])), (a2, .inl (cA, (100, .inl f2)))] sz)) (gM (dC, dI) none (fun u : (Nat → Int32) => RI (L ++ turnL M) u) (fun u : (Nat → Int32) => [(h, .inr (0, [.ref a, .int (nI ((L ++ turnL M).length))])), (a, .inl (cA, (100, .inl u))), (h2, .inr (0, [.ref a2, .int (nI M.length)])), (a2, .inl (cA, (100, .inl f2)))]) (va_A [(h, .inr (0, [.ref a, .int (nI L.length)])), (a, .inl (cA, (100, .inl f))), (h2, .inr (0, [.ref a2, .int (nI M.length)])), (a2, .inl (cA, (100, .inl f2)))] sz)) 0 0 (va_A [(h, .inr (0, [.ref a, .int (nI L.length)])), (a, .inl (cA, (100, .inl f))), (h2, .inr (0, [.ref a2, .int (nI M.length)])), (a2, .inl (cA, (100, .inl f2)))] sz) := by
  refine g_ofM (cc := cX0_addTurnedRound) (maxL := 3) (ret := none) (by decide) rfl (Nat.le_of_ble_eq_true rfl) (fun p e s m below meth c ls hx hb hr hml hts hown hlocks hP hK hl hin A hA hD hS => ?_)
  have hl : lv_has ls 3 [(0, .ref h), (1, .ref h2)] := hl
  have hL := hR.1
  have hL2 := hR2.1
  refine lv_aload_n hx hb dX0_addTurnedRound_0 rfl (lv_at hl 1 rfl) ?_
  refine g_RVi (As := []) (rest := []) ⟨hx, hb, hml, hown, hts⟩ (mt_X0_size l dC dI cA s.heap.size h2 a2 (nI M.length) f2) (cwV 0 hts gX0_addTurnedRound_X0_size rfl rfl rfl hdX0_size ⟨Nat.le_of_ble_eq_true rfl, Nat.le_of_ble_eq_true rfl⟩) hP hK hD [2, 3] (by decide) rfl (va_recv hK hP (ci := 0) (q0 := 2) rfl rfl) rfl hl.1 rfl (Nat.le_of_ble_eq_true rfl) dX0_addTurnedRound_1 (Nat.zero_le _) (Nat.zero_le _) ?_
  refine lv_iconst (v := 1) hx hb dX0_addTurnedRound_4 (by decide) ?_
  refine lv_isub hx hb dX0_addTurnedRound_5 ?_
  rw [plI_sub M.length]
  refine lv_istore_n (lv' := [(2, .int (plI M.length)), (0, .ref h), (1, .ref h2)]) hx hb dX0_addTurnedRound_6 rfl hl (by decide) rfl (fun ls hl => ?_)
  have lp7 : ∀ (d : Nat) (j : Nat) (Lk : List Int32) (f1 : Nat → Int32) (hj : j ≤ M.length) (hLk : Lk = L ++ (turnL M).take (M.length - j)) (hR1 : RI Lk f1), j < d → ∀ (H : Heap) (locs : List Loc), va_P (dC, dI) vwCl [(h, .inr (0, [.ref a, .int (nI Lk.length)])), (a, .inl (cA, (100, .inl f1))), (h2, .inr (0, [.ref a2, .int (nI M.length)])), (a2, .inl (cA, (100, .inl f2)))] H → va_D A [(h, .inr (0, [.ref a, .int (nI Lk.length)])), (a, .inl (cA, (100, .inl f1))), (h2, .inr (0, [.ref a2, .int (nI M.length)])), (a2, .inl (cA, (100, .inl f2)))] → va_S A s.heap H locs → ∀ ls : Array Slot, lv_has ls 3 [(2, .int (plI j)), (0, .ref h), (1, .ref h2)] → W p l e mt_X0_addTurnedRound_rm s m ([.ref h, .ref h2] : List Value).toArray below meth c H locs 0 0 (MQ below (gM (dC, dI) none (fun u : (Nat → Int32) => RI (L ++ turnL M) u) (fun u : (Nat → Int32) => [(h, .inr (0, [.ref a, .int (nI ((L ++ turnL M).length))])), (a, .inl (cA, (100, .inl u))), (h2, .inr (0, [.ref a2, .int (nI M.length)])), (a2, .inl (cA, (100, .inl f2)))]) A) ([.ref h, .ref h2] : List Value).toArray s 0 0 A) (F0 m 7 ls []) := by
    intro d
    induction d with
    | zero => intro j Lk f1 hj hLk hR1 hd; exact absurd hd (Nat.not_lt_zero _)
    | succ d ih7 =>
      intro j Lk f1 hj hLk hR1 hd H locs hP hD hS ls hl
      have hlk : Lk.length = L.length + (M.length - j) := by rw [hLk]; simp [turnL_len]
      cases j with
      | zero =>
        have hl : lv_has ls 3 [(2, .int (-1)), (0, .ref h), (1, .ref h2)] := hl
        refine lv_iload_n hx hb dX0_addTurnedRound_7 rfl (lv_at hl 0 rfl) ?_
        refine lv_if_lt (tgt := 27) hx hb dX0_addTurnedRound_8 (by decide) (fun c8 => ?_) (fun c8 => ?_)
        · obtain rfl : Lk = L ++ turnL M := by rw [hLk, List.take_of_length_le (by rw [turnL_len]; omega)]
          exact g_endMv hx hb hr hlocks hP hS dX0_addTurnedRound_27 f1 rfl hR1
        · exact absurd (by decide) c8
      | succ j =>
        have hl : lv_has ls 3 [(2, .int (nI j)), (0, .ref h), (1, .ref h2)] := hl
        refine lv_iload_n hx hb dX0_addTurnedRound_7 rfl (lv_at hl 0 rfl) ?_
        refine lv_if_lt (tgt := 27) hx hb dX0_addTurnedRound_8 (by decide) (fun c8 => ?_) (fun c8 => ?_)
        · exact absurd (g_ltT j 0 (by omega) (by omega) c8) (by omega)
        · have c8 : 0 ≤ j := g_ltF j 0 (by omega) (by omega) c8
          refine lv_aload_n hx hb dX0_addTurnedRound_11 rfl (lv_at hl 1 rfl) ?_
          refine lv_aload_n hx hb dX0_addTurnedRound_12 rfl (lv_at hl 2 rfl) ?_
          refine lv_iload_n hx hb dX0_addTurnedRound_13 rfl (lv_at hl 0 rfl) ?_
          refine g_RVi (As := [.int (nI j)]) (rest := [.ref h]) ⟨hx, hb, hml, hown, hts⟩ (mt_X0_at l dC dI cA H.size h2 a2 M f2 j hR2 (by first | omega | (simp only [List.length_append, List.length_cons, List.length_nil, List.length_set, turnL_len]; omega))) (cwV 1 hts gX0_addTurnedRound_X0_at rfl rfl rfl hdX0_at ⟨Nat.le_of_ble_eq_true rfl, Nat.le_of_ble_eq_true rfl⟩) hP hK hD [2, 3] (by decide) rfl (va_recv hK hP (ci := 0) (q0 := 2) rfl rfl) rfl hl.1 rfl (Nat.le_of_ble_eq_true rfl) dX0_addTurnedRound_14 (Nat.zero_le _) (Nat.zero_le _) ?_
          refine lv_ineg hx hb dX0_addTurnedRound_17 ?_
          refine g_MVv (As := [.int (-(atL M j))]) (rest := []) ⟨hx, hb, hml, hown, hts⟩ (mt_X0_add l dC dI cA H.size h a Lk f1 (-(atL M j)) hR1 (by first | omega | (simp only [List.length_append, List.length_cons, List.length_nil, List.length_set, turnL_len]; omega))) (cwV 1 hts gX0_addTurnedRound_X0_add rfl rfl rfl hdX0_add ⟨Nat.le_of_ble_eq_true rfl, Nat.le_of_ble_eq_true rfl⟩) hP hK hD hS hA [0, 1] (by decide) rfl (va_recv hK hP (ci := 0) (q0 := 0) rfl rfl) rfl hl.1 rfl (Nat.le_of_ble_eq_true rfl) dX0_addTurnedRound_18 (Nat.zero_le _) (Nat.zero_le _) (fun u9 => [(h, .inr (0, [.ref a, .int (nI ((Lk ++ [(-(atL M j))]).length))])), (a, .inl (cA, (100, .inl u9))), (h2, .inr (0, [.ref a2, .int (nI M.length)])), (a2, .inl (cA, (100, .inl f2)))]) (fun _ => rfl) (fun _ => rfl) (fun u H locs hw_2 hP hD hS => ?_)
          obtain ⟨f1_1, rfl⟩ : ∃ z, z = u := ⟨_, rfl⟩
          have hw_2 : RI (Lk ++ [(-(atL M j))]) f1_1 := hw_2
          have hP : va_P (dC, dI) vwCl [(h, .inr (0, [.ref a, .int (nI ((Lk ++ [(-(atL M j))]).length))])), (a, .inl (cA, (100, .inl f1_1))), (h2, .inr (0, [.ref a2, .int (nI M.length)])), (a2, .inl (cA, (100, .inl f2)))] H := hP
          have hD : va_D A [(h, .inr (0, [.ref a, .int (nI ((Lk ++ [(-(atL M j))]).length))])), (a, .inl (cA, (100, .inl f1_1))), (h2, .inr (0, [.ref a2, .int (nI M.length)])), (a2, .inl (cA, (100, .inl f2)))] := hD
          refine lv_iinc (v := plI j) (lv' := [(2, .int (plI j)), (0, .ref h), (1, .ref h2)]) hx hb dX0_addTurnedRound_21 hl (k := 0) rfl (plI_dec _) (by decide) rfl (fun ls hl => ?_)
          refine lv_goto (tgt := 7) hx hb dX0_addTurnedRound_24 (by decide) ?_
          exact ih7 j (Lk ++ [(-(atL M j))]) f1_1 (by omega) (by rw [hLk, turn_snoc hj]) hw_2 (by omega) _ _ hP hD hS _ (lv_sub hl [0, 1, 2] rfl)
  exact lp7 ((M.length) + 1) M.length L f (Nat.le_refl _) (by simp) hR (Nat.lt_succ_self _) _ _ hP hD hS _ (lv_sub hl [0, 1, 2] rfl)

abbrev mt_X0_putIn_rm : Room := { frames := 1, cells := 0, slots := 0, locals := 22 }
set_option maxHeartbeats 4000000 in
set_option maxRecDepth 100000 in
/-- Row.putIn(k, x) -/
theorem mt_X0_putIn (l : Launch) (dC : Nat → ClassId) (dI : Nat → Nat → Nat) (cA : ClassId) (sz : Nat) (h : Nat) (a : Nat) (L : List Int32) (f : Nat → Int32) (k : Nat) (x : Int32) (hR : RI L f) (hk : k ≤ L.length) (hk2 : L.length < 100) : Met l yX0_putIn wsX0_putIn mt_X0_putIn_rm (va_Pc [.ref h, .int (nI k), .int x] (gB (dC, dI) [(cA, .int)] [(h, .inr (0, [.ref a, .int (nI L.length)])), (a, .inl (cA, (100, .inl f)))] sz)) (gM (dC, dI) none (fun u : (Nat → Int32) => RI (insL L k x) u) (fun u : (Nat → Int32) => [(h, .inr (0, [.ref a, .int (nI ((insL L k x).length))])), (a, .inl (cA, (100, .inl u)))]) (va_A [(h, .inr (0, [.ref a, .int (nI L.length)])), (a, .inl (cA, (100, .inl f)))] sz)) 0 0 (va_A [(h, .inr (0, [.ref a, .int (nI L.length)])), (a, .inl (cA, (100, .inl f)))] sz) := by
  refine g_ofM (cc := cX0_putIn) (maxL := 4) (ret := none) (by decide) rfl (Nat.le_of_ble_eq_true rfl) (fun p e s m below meth c ls hx hb hr hml hts hown hlocks hP hK hl hin A hA hD hS => ?_)
  have hl : lv_has ls 4 [(0, .ref h), (1, .int (nI k)), (2, .int x)] := hl
  have hL := hR.1
  refine lv_aload_n hx hb dX0_putIn_0 rfl (lv_at hl 0 rfl) ?_
  refine lv_iload_n hx hb dX0_putIn_1 rfl (lv_at hl 2 rfl) ?_
  refine g_MVv (As := [.int x]) (rest := []) ⟨hx, hb, hml, hown, hts⟩ (mt_X0_add l dC dI cA s.heap.size h a L f x hR (by first | omega | (simp only [List.length_append, List.length_cons, List.length_nil, List.length_set, turnL_len]; omega))) (cwV 1 hts gX0_putIn_X0_add rfl rfl rfl hdX0_add ⟨Nat.le_of_ble_eq_true rfl, Nat.le_of_ble_eq_true rfl⟩) hP hK hD hS hA [0, 1] (by decide) rfl (va_recv hK hP (ci := 0) (q0 := 0) rfl rfl) rfl hl.1 rfl (Nat.le_of_ble_eq_true rfl) dX0_putIn_2 (Nat.zero_le _) (Nat.zero_le _) (fun u9 => [(h, .inr (0, [.ref a, .int (nI ((L ++ [x]).length))])), (a, .inl (cA, (100, .inl u9)))]) (fun _ => rfl) (fun _ => rfl) (fun u H locs hw_2 hP hD hS => ?_)
  obtain ⟨f1_1, rfl⟩ : ∃ z, z = u := ⟨_, rfl⟩
  have hw_2 : RI (L ++ [x]) f1_1 := hw_2
  have hP : va_P (dC, dI) vwCl [(h, .inr (0, [.ref a, .int (nI ((L ++ [x]).length))])), (a, .inl (cA, (100, .inl f1_1)))] H := hP
  have hD : va_D A [(h, .inr (0, [.ref a, .int (nI ((L ++ [x]).length))])), (a, .inl (cA, (100, .inl f1_1)))] := hD
  refine lv_aload_n hx hb dX0_putIn_5 rfl (lv_at hl 0 rfl) ?_
  refine va_get (D := (dC, dI)) (ci := 0) (v := .int (nI ((L ++ [x]).length))) (C := RX0) (T := TX0) (N := 2) hx hb hts (in_X0_putIn_0) hown hK hP 0 rfl rfl 1 (by decide) (hts (.fieldLink RX0 15 "BraidWords$Row" "size" "I") (List.mem_of_getElem? (i := 1) rfl)) (fun _ h9 => h9) rfl dX0_putIn_6 ?_
  refine lv_iconst (v := 1) hx hb dX0_putIn_9 (by decide) ?_
  refine lv_isub hx hb dX0_putIn_10 ?_
  rw [show nI (L ++ [x]).length - 1 = nI L.length from by rw [len_snoc]; exact nI_pred _]
  refine lv_istore_n (lv' := [(3, .int (nI L.length)), (0, .ref h), (1, .int (nI k)), (2, .int x)]) hx hb dX0_putIn_11 rfl hl (by decide) rfl (fun ls hl => ?_)
  have lp12 : ∀ (d : Nat) (j : Nat) (Lk : List Int32) (f1 : Nat → Int32) (hj : k ≤ j) (hj2 : j ≤ L.length) (hLk : Lk = shL L x j) (hR1 : RI Lk f1), j < d → ∀ (H : Heap) (locs : List Loc), va_P (dC, dI) vwCl [(h, .inr (0, [.ref a, .int (nI Lk.length)])), (a, .inl (cA, (100, .inl f1)))] H → va_D A [(h, .inr (0, [.ref a, .int (nI Lk.length)])), (a, .inl (cA, (100, .inl f1)))] → va_S A s.heap H locs → ∀ ls : Array Slot, lv_has ls 4 [(3, .int (nI j)), (0, .ref h), (1, .int (nI k)), (2, .int x)] → W p l e mt_X0_putIn_rm s m ([.ref h, .int (nI k), .int x] : List Value).toArray below meth c H locs 0 0 (MQ below (gM (dC, dI) none (fun u : (Nat → Int32) => RI (insL L k x) u) (fun u : (Nat → Int32) => [(h, .inr (0, [.ref a, .int (nI ((insL L k x).length))])), (a, .inl (cA, (100, .inl u)))]) A) ([.ref h, .int (nI k), .int x] : List Value).toArray s 0 0 A) (F0 m 12 ls []) := by
    intro d
    induction d with
    | zero => intro j Lk f1 hj hj2 hLk hR1 hd; exact absurd hd (Nat.not_lt_zero _)
    | succ d ih12 =>
      intro j Lk f1 hj hj2 hLk hR1 hd H locs hP hD hS ls hl
      have hlk : Lk.length = L.length + 1 := by rw [hLk]; exact shL_len hj2
      refine lv_iload_n hx hb dX0_putIn_12 rfl (lv_at hl 0 rfl) ?_
      refine lv_iload_n hx hb dX0_putIn_13 rfl (lv_at hl 2 rfl) ?_
      refine lv_icmp_le (tgt := 35) hx hb dX0_putIn_14 (by decide) (fun c14 => ?_) (fun c14 => ?_)
      · have c14 : j ≤ k := g_leT j k (by omega) (by omega) c14
        have ejk : j = k := by omega
        refine lv_aload_n hx hb dX0_putIn_35 rfl (lv_at hl 1 rfl) ?_
        refine lv_iload_n hx hb dX0_putIn_36 rfl (lv_at hl 2 rfl) ?_
        refine lv_iload_n hx hb dX0_putIn_37 rfl (lv_at hl 3 rfl) ?_
        refine g_MVv (As := [.int (nI k), .int x]) (rest := []) ⟨hx, hb, hml, hown, hts⟩ (mt_X0_set l dC dI cA H.size h a Lk f1 k x hR1 (by first | omega | (simp only [List.length_append, List.length_cons, List.length_nil, List.length_set, turnL_len]; omega))) (cwV 2 hts gX0_putIn_X0_set rfl rfl rfl hdX0_set ⟨Nat.le_of_ble_eq_true rfl, Nat.le_of_ble_eq_true rfl⟩) hP hK hD hS hA [0, 1] (by decide) rfl (va_recv hK hP (ci := 0) (q0 := 0) rfl rfl) rfl hl.1 rfl (Nat.le_of_ble_eq_true rfl) dX0_putIn_38 (Nat.zero_le _) (Nat.zero_le _) (fun u9 => [(h, .inr (0, [.ref a, .int (nI ((Lk.set k x).length))])), (a, .inl (cA, (100, .inl u9)))]) (fun _ => rfl) (fun _ => rfl) (fun u H locs hw_4 hP hD hS => ?_)
        obtain ⟨f1_3, rfl⟩ : ∃ z, z = u := ⟨_, rfl⟩
        have hw_4 : RI (Lk.set k x) f1_3 := hw_4
        have hP : va_P (dC, dI) vwCl [(h, .inr (0, [.ref a, .int (nI ((Lk.set k x).length))])), (a, .inl (cA, (100, .inl f1_3)))] H := hP
        have hD : va_D A [(h, .inr (0, [.ref a, .int (nI ((Lk.set k x).length))])), (a, .inl (cA, (100, .inl f1_3)))] := hD
        rw [show Lk.set k x = insL L k x from by rw [hLk, ejk]; exact shL_end hk] at hP hw_4
        exact g_endMv hx hb hr hlocks hP hS dX0_putIn_41 f1_3 rfl hw_4
      · have c14 : k < j := g_leF j k (by omega) (by omega) c14
        obtain ⟨i, rfl⟩ : ∃ i, j = i + 1 := ⟨j - 1, by omega⟩
        refine lv_aload_n hx hb dX0_putIn_17 rfl (lv_at hl 1 rfl) ?_
        refine lv_iload_n hx hb dX0_putIn_18 rfl (lv_at hl 0 rfl) ?_
        refine lv_aload_n hx hb dX0_putIn_19 rfl (lv_at hl 1 rfl) ?_
        refine lv_iload_n hx hb dX0_putIn_20 rfl (lv_at hl 0 rfl) ?_
        refine lv_iconst (v := 1) hx hb dX0_putIn_21 (by decide) ?_
        refine lv_isub hx hb dX0_putIn_22 ?_
        rw [nI_pred i]
        refine g_RVi (As := [.int (nI i)]) (rest := [.int (nI (i + 1)), .ref h]) ⟨hx, hb, hml, hown, hts⟩ (mt_X0_at l dC dI cA H.size h a Lk f1 i hR1 (by first | omega | (simp only [List.length_append, List.length_cons, List.length_nil, List.length_set, turnL_len]; omega))) (cwV 1 hts gX0_putIn_X0_at rfl rfl rfl hdX0_at ⟨Nat.le_of_ble_eq_true rfl, Nat.le_of_ble_eq_true rfl⟩) hP hK hD [0, 1] (by decide) rfl (va_recv hK hP (ci := 0) (q0 := 0) rfl rfl) rfl hl.1 rfl (Nat.le_of_ble_eq_true rfl) dX0_putIn_23 (Nat.zero_le _) (Nat.zero_le _) ?_
        refine g_MVv (As := [.int (nI (i + 1)), .int (atL Lk i)]) (rest := []) ⟨hx, hb, hml, hown, hts⟩ (mt_X0_set l dC dI cA H.size h a Lk f1 (i + 1) (atL Lk i) hR1 (by first | omega | (simp only [List.length_append, List.length_cons, List.length_nil, List.length_set, turnL_len]; omega))) (cwV 2 hts gX0_putIn_X0_set rfl rfl rfl hdX0_set ⟨Nat.le_of_ble_eq_true rfl, Nat.le_of_ble_eq_true rfl⟩) hP hK hD hS hA [0, 1] (by decide) rfl (va_recv hK hP (ci := 0) (q0 := 0) rfl rfl) rfl hl.1 rfl (Nat.le_of_ble_eq_true rfl) dX0_putIn_26 (Nat.zero_le _) (Nat.zero_le _) (fun u9 => [(h, .inr (0, [.ref a, .int (nI ((Lk.set (i + 1) (atL Lk i)).length))])), (a, .inl (cA, (100, .inl u9)))]) (fun _ => rfl) (fun _ => rfl) (fun u H locs hw_6 hP hD hS => ?_)
        obtain ⟨f1_5, rfl⟩ : ∃ z, z = u := ⟨_, rfl⟩
        have hw_6 : RI (Lk.set (i + 1) (atL Lk i)) f1_5 := hw_6
        have hP : va_P (dC, dI) vwCl [(h, .inr (0, [.ref a, .int (nI ((Lk.set (i + 1) (atL Lk i)).length))])), (a, .inl (cA, (100, .inl f1_5)))] H := hP
        have hD : va_D A [(h, .inr (0, [.ref a, .int (nI ((Lk.set (i + 1) (atL Lk i)).length))])), (a, .inl (cA, (100, .inl f1_5)))] := hD
        refine lv_iinc (v := nI i) (lv' := [(3, .int (nI i)), (0, .ref h), (1, .int (nI k)), (2, .int x)]) hx hb dX0_putIn_29 hl (k := 0) rfl (show nI (i + 1) + Int32.ofInt (-1) = nI i from plI_dec (i + 1)) (by decide) rfl (fun ls hl => ?_)
        refine lv_goto (tgt := 12) hx hb dX0_putIn_32 (by decide) ?_
        exact ih12 i (Lk.set (i + 1) (atL Lk i)) f1_5 (by omega) (by omega) (by rw [hLk]; exact shL_step hj2) hw_6 (by omega) _ _ hP hD hS _ (lv_sub hl [0, 1, 2, 3] rfl)
  exact lp12 ((L.length) + 1) L.length (L ++ [x]) f1_1 hk (Nat.le_refl _) shL_0 hw_2 (Nat.lt_succ_self _) _ _ hP hD hS _ (lv_sub hl [0, 1, 2, 3] rfl)
