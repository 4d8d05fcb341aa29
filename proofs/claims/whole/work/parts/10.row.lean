set_option maxRecDepth 20000 in
theorem in_X0_size_0 : ∀ w ∈ wsX00, w ∈ wsX0_size := by decide +kernel
set_option maxRecDepth 20000 in
theorem in_X0_at_0 : ∀ w ∈ wsX00, w ∈ wsX0_at := by decide +kernel
set_option maxRecDepth 20000 in
theorem in_X0_set_0 : ∀ w ∈ wsX00, w ∈ wsX0_set := by decide +kernel
set_option maxRecDepth 20000 in
theorem in_X0_add_0 : ∀ w ∈ wsX00, w ∈ wsX0_add := by decide +kernel
set_option maxRecDepth 20000 in
theorem in_X0_clear_0 : ∀ w ∈ wsX00, w ∈ wsX0_clear := by decide +kernel
set_option maxRecDepth 20000 in
theorem in_X0_dropLast_0 : ∀ w ∈ wsX00, w ∈ wsX0_dropLast := by decide +kernel
abbrev mt_X0_size_rm : Room := { frames := 0, cells := 0, slots := 0, locals := 0 }
set_option maxHeartbeats 4000000 in
set_option maxRecDepth 100000 in
/-- Row.size() -/
theorem mt_X0_size (l : Launch) (dC : Nat → ClassId) (dI : Nat → Nat → Nat) (cA : ClassId) (sz : Nat) (h : Nat) (a : Nat) (n : Int32) (f : Nat → Int32) : Met l yX0_size wsX0_size mt_X0_size_rm (va_Pc [.ref h] (gB (dC, dI) [(cA, .int)] [(h, .inr (0, [.ref a, .int n])), (a, .inl (cA, (100, .inl f)))] sz)) (gR (some (.int n))) 0 0 (fun _ => False) := by
  refine g_ofR (cc := cX0_size) (maxL := 1) (ret := (some .int)) (by decide) rfl (Nat.le_of_ble_eq_true rfl) (fun p e s m below meth c ls hx hb hr hml hts hown hlocks hP hK hl hD => ?_)
  have hS : va_S (fun _ => True) s.heap s.heap [] := va_S.rf
  have hl : lv_has ls 1 [(0, .ref h)] := hl
  refine lv_aload_n hx hb dX0_size_0 rfl (lv_at hl 0 rfl) ?_
  refine va_get (D := (dC, dI)) (ci := 0) (v := .int n) (C := RX0) (T := TX0) (N := 2) hx hb hts (in_X0_size_0) hown hK hP 0 rfl rfl 1 (by decide) (hts (.fieldLink RX0 15 "BraidWords$Row" "size" "I") (List.mem_of_getElem? (i := 1) rfl)) (fun _ h9 => h9) rfl dX0_size_1 ?_
  exact g_endRi hx hb hr hlocks dX0_size_4 rfl

abbrev mt_X0_at_rm : Room := { frames := 0, cells := 0, slots := 0, locals := 0 }
set_option maxHeartbeats 4000000 in
set_option maxRecDepth 100000 in
/-- Row.at(k) -/
theorem mt_X0_at (l : Launch) (dC : Nat → ClassId) (dI : Nat → Nat → Nat) (cA : ClassId) (sz : Nat) (h : Nat) (a : Nat) (L : List Int32) (f : Nat → Int32) (k : Nat) (hR : RI L f) (hk : k < 1000) : Met l yX0_at wsX0_at mt_X0_at_rm (va_Pc [.ref h, .int (nI k)] (gB (dC, dI) [(cA, .int)] [(h, .inr (0, [.ref a, .int (nI L.length)])), (a, .inl (cA, (100, .inl f)))] sz)) (gR (some (.int (atL L k)))) 0 0 (fun _ => False) := by
  refine g_ofR (cc := cX0_at) (maxL := 2) (ret := (some .int)) (by decide) rfl (Nat.le_of_ble_eq_true rfl) (fun p e s m below meth c ls hx hb hr hml hts hown hlocks hP hK hl hD => ?_)
  have hS : va_S (fun _ => True) s.heap s.heap [] := va_S.rf
  have hl : lv_has ls 2 [(0, .ref h), (1, .int (nI k))] := hl
  have hL := hR.1
  refine lv_iload_n hx hb dX0_at_0 rfl (lv_at hl 1 rfl) ?_
  refine lv_if_lt (tgt := 21) hx hb dX0_at_1 (by decide) (fun c1 => ?_) (fun c1 => ?_)
  · exact absurd (g_ltT k 0 (by omega) (by omega) c1) (by omega)
  · have c1 : 0 ≤ k := g_ltF k 0 (by omega) (by omega) c1
    refine lv_iload_n hx hb dX0_at_4 rfl (lv_at hl 1 rfl) ?_
    refine lv_aload_n hx hb dX0_at_5 rfl (lv_at hl 0 rfl) ?_
    refine va_get (D := (dC, dI)) (ci := 0) (v := .int (nI L.length)) (C := RX0) (T := TX0) (N := 2) hx hb hts (in_X0_at_0) hown hK hP 0 rfl rfl 1 (by decide) (hts (.fieldLink RX0 15 "BraidWords$Row" "size" "I") (List.mem_of_getElem? (i := 1) rfl)) (fun _ h9 => h9) rfl dX0_at_6 ?_
    refine lv_icmp_ge (tgt := 21) hx hb dX0_at_9 (by decide) (fun c9 => ?_) (fun c9 => ?_)
    · have c9 : L.length ≤ k := g_geT k L.length (by omega) (by omega) c9
      refine lv_iconst (v := 0) hx hb dX0_at_21 (by decide) ?_
      exact g_endRi hx hb hr hlocks dX0_at_22 ((atL_out (by omega)).symm)
    · have c9 : k < L.length := g_geF k L.length (by omega) (by omega) c9
      refine lv_iload_n hx hb dX0_at_12 rfl (lv_at hl 1 rfl) ?_
      refine lv_aload_n hx hb dX0_at_13 rfl (lv_at hl 0 rfl) ?_
      refine va_get (D := (dC, dI)) (ci := 0) (v := .ref a) (C := RX0) (T := TX0) (N := 2) hx hb hts (in_X0_at_0) hown hK hP 0 rfl rfl 0 (by decide) (hts (.fieldLink RX0 9 "BraidWords$Row" "letters" "[I") (List.mem_of_getElem? (i := 2) rfl)) (fun _ h9 => h9) rfl dX0_at_14 ?_
      refine va_alen (v := 100) hx hb hK hP 1 0 rfl rfl (by decide) dX0_at_17 ?_
      refine lv_icmp_lt (tgt := 23) hx hb dX0_at_18 (by decide) (fun c18 => ?_) (fun c18 => ?_)
      · have c18 : k < 100 := g_ltT k 100 (by omega) (by omega) c18
        refine lv_aload_n hx hb dX0_at_23 rfl (lv_at hl 0 rfl) ?_
        refine va_get (D := (dC, dI)) (ci := 0) (v := .ref a) (C := RX0) (T := TX0) (N := 2) hx hb hts (in_X0_at_0) hown hK hP 0 rfl rfl 0 (by decide) (hts (.fieldLink RX0 9 "BraidWords$Row" "letters" "[I") (List.mem_of_getElem? (i := 2) rfl)) (fun _ h9 => h9) rfl dX0_at_24 ?_
        refine lv_iload_n hx hb dX0_at_27 rfl (lv_at hl 1 rfl) ?_
        refine va_iald hx hb hK hP 1 0 rfl rfl (vp_in_nI (by omega) (by decide)) dX0_at_28 ?_
        rw [show (nI k).toNatClampNeg = k from nI_clamp (by omega)]
        exact g_endRi hx hb hr hlocks dX0_at_29 (hR.2 k (by omega))
      · have c18 : 100 ≤ k := g_ltF k 100 (by omega) (by omega) c18
        refine lv_iconst (v := 0) hx hb dX0_at_21 (by decide) ?_
        exact g_endRi hx hb hr hlocks dX0_at_22 ((atL_out (by omega)).symm)

abbrev mt_X0_set_rm : Room := { frames := 0, cells := 0, slots := 0, locals := 0 }
set_option maxHeartbeats 4000000 in
set_option maxRecDepth 100000 in
/-- Row.set(k, x), k a place -/
theorem mt_X0_set (l : Launch) (dC : Nat → ClassId) (dI : Nat → Nat → Nat) (cA : ClassId) (sz : Nat) (h : Nat) (a : Nat) (L : List Int32) (f : Nat → Int32) (k : Nat) (x : Int32) (hR : RI L f) (hk : k < L.length) : Met l yX0_set wsX0_set mt_X0_set_rm (va_Pc [.ref h, .int (nI k), .int x] (gB (dC, dI) [(cA, .int)] [(h, .inr (0, [.ref a, .int (nI L.length)])), (a, .inl (cA, (100, .inl f)))] sz)) (gM (dC, dI) none (fun u : (Nat → Int32) => RI (L.set k x) u) (fun u : (Nat → Int32) => [(h, .inr (0, [.ref a, .int (nI ((L.set k x).length))])), (a, .inl (cA, (100, .inl u)))]) (va_A [(h, .inr (0, [.ref a, .int (nI L.length)])), (a, .inl (cA, (100, .inl f)))] sz)) 0 0 (va_A [(h, .inr (0, [.ref a, .int (nI L.length)])), (a, .inl (cA, (100, .inl f)))] sz) := by
  refine g_ofM (cc := cX0_set) (maxL := 3) (ret := none) (by decide) rfl (Nat.le_of_ble_eq_true rfl) (fun p e s m below meth c ls hx hb hr hml hts hown hlocks hP hK hl hin A hA hD hS => ?_)
  have hl : lv_has ls 3 [(0, .ref h), (1, .int (nI k)), (2, .int x)] := hl
  have hL := hR.1
  refine lv_iload_n hx hb dX0_set_0 rfl (lv_at hl 1 rfl) ?_
  refine lv_if_lt (tgt := 28) hx hb dX0_set_1 (by decide) (fun c1 => ?_) (fun c1 => ?_)
  · exact absurd (g_ltT k 0 (by omega) (by omega) c1) (by omega)
  · have c1 : 0 ≤ k := g_ltF k 0 (by omega) (by omega) c1
    refine lv_iload_n hx hb dX0_set_4 rfl (lv_at hl 1 rfl) ?_
    refine lv_aload_n hx hb dX0_set_5 rfl (lv_at hl 0 rfl) ?_
    refine va_get (D := (dC, dI)) (ci := 0) (v := .int (nI L.length)) (C := RX0) (T := TX0) (N := 2) hx hb hts (in_X0_set_0) hown hK hP 0 rfl rfl 1 (by decide) (hts (.fieldLink RX0 15 "BraidWords$Row" "size" "I") (List.mem_of_getElem? (i := 1) rfl)) (fun _ h9 => h9) rfl dX0_set_6 ?_
    refine lv_icmp_ge (tgt := 28) hx hb dX0_set_9 (by decide) (fun c9 => ?_) (fun c9 => ?_)
    · exact absurd (g_geT k L.length (by omega) (by omega) c9) (by omega)
    · have c9 : k < L.length := g_geF k L.length (by omega) (by omega) c9
      refine lv_iload_n hx hb dX0_set_12 rfl (lv_at hl 1 rfl) ?_
      refine lv_aload_n hx hb dX0_set_13 rfl (lv_at hl 0 rfl) ?_
      refine va_get (D := (dC, dI)) (ci := 0) (v := .ref a) (C := RX0) (T := TX0) (N := 2) hx hb hts (in_X0_set_0) hown hK hP 0 rfl rfl 0 (by decide) (hts (.fieldLink RX0 9 "BraidWords$Row" "letters" "[I") (List.mem_of_getElem? (i := 2) rfl)) (fun _ h9 => h9) rfl dX0_set_14 ?_
      refine va_alen (v := 100) hx hb hK hP 1 0 rfl rfl (by decide) dX0_set_17 ?_
      refine lv_icmp_ge (tgt := 28) hx hb dX0_set_18 (by decide) (fun c18 => ?_) (fun c18 => ?_)
      · exact absurd (g_geT k 100 (by omega) (by omega) c18) (by omega)
      · have c18 : k < 100 := g_geF k 100 (by omega) (by omega) c18
        refine lv_aload_n hx hb dX0_set_21 rfl (lv_at hl 0 rfl) ?_
        refine va_get (D := (dC, dI)) (ci := 0) (v := .ref a) (C := RX0) (T := TX0) (N := 2) hx hb hts (in_X0_set_0) hown hK hP 0 rfl rfl 0 (by decide) (hts (.fieldLink RX0 9 "BraidWords$Row" "letters" "[I") (List.mem_of_getElem? (i := 2) rfl)) (fun _ h9 => h9) rfl dX0_set_22 ?_
        refine lv_iload_n hx hb dX0_set_25 rfl (lv_at hl 1 rfl) ?_
        refine lv_iload_n hx hb dX0_set_26 rfl (lv_at hl 2 rfl) ?_
        refine va_iast hx hb hK hP hD hS 1 0 rfl rfl (vp_in_nI (by omega) (by decide)) dX0_set_27 (fun H locs hP hD hS => ?_)
        rw [show (nI k).toNatClampNeg = k from nI_clamp (by omega)] at hP hD
        have hP : va_P (dC, dI) vwCl [(h, .inr (0, [.ref a, .int (nI L.length)])), (a, .inl (cA, (100, .inl (upd f k x))))] H := hP
        have hD : va_D A [(h, .inr (0, [.ref a, .int (nI L.length)])), (a, .inl (cA, (100, .inl (upd f k x))))] := hD
        rw [show L.length = (L.set k x).length from (List.length_set).symm] at hP
        exact g_endMv hx hb hr hlocks hP hS dX0_set_28 (upd f k x) rfl (RI_set hR (by omega))

abbrev mt_X0_add_rm : Room := { frames := 0, cells := 0, slots := 0, locals := 0 }
set_option maxHeartbeats 4000000 in
set_option maxRecDepth 100000 in
/-- Row.add(x), where there is room -/
theorem mt_X0_add (l : Launch) (dC : Nat → ClassId) (dI : Nat → Nat → Nat) (cA : ClassId) (sz : Nat) (h : Nat) (a : Nat) (L : List Int32) (f : Nat → Int32) (x : Int32) (hR : RI L f) (hk : L.length < 100) : Met l yX0_add wsX0_add mt_X0_add_rm (va_Pc [.ref h, .int x] (gB (dC, dI) [(cA, .int)] [(h, .inr (0, [.ref a, .int (nI L.length)])), (a, .inl (cA, (100, .inl f)))] sz)) (gM (dC, dI) none (fun u : (Nat → Int32) => RI (L ++ [x]) u) (fun u : (Nat → Int32) => [(h, .inr (0, [.ref a, .int (nI ((L ++ [x]).length))])), (a, .inl (cA, (100, .inl u)))]) (va_A [(h, .inr (0, [.ref a, .int (nI L.length)])), (a, .inl (cA, (100, .inl f)))] sz)) 0 0 (va_A [(h, .inr (0, [.ref a, .int (nI L.length)])), (a, .inl (cA, (100, .inl f)))] sz) := by
  refine g_ofM (cc := cX0_add) (maxL := 2) (ret := none) (by decide) rfl (Nat.le_of_ble_eq_true rfl) (fun p e s m below meth c ls hx hb hr hml hts hown hlocks hP hK hl hin A hA hD hS => ?_)
  have hl : lv_has ls 2 [(0, .ref h), (1, .int x)] := hl
  have hL := hR.1
  refine lv_aload_n hx hb dX0_add_0 rfl (lv_at hl 0 rfl) ?_
  refine va_get (D := (dC, dI)) (ci := 0) (v := .int (nI L.length)) (C := RX0) (T := TX0) (N := 2) hx hb hts (in_X0_add_0) hown hK hP 0 rfl rfl 1 (by decide) (hts (.fieldLink RX0 15 "BraidWords$Row" "size" "I") (List.mem_of_getElem? (i := 1) rfl)) (fun _ h9 => h9) rfl dX0_add_1 ?_
  refine lv_if_lt (tgt := 39) hx hb dX0_add_4 (by decide) (fun c4 => ?_) (fun c4 => ?_)
  · exact absurd (g_ltT L.length 0 (by omega) (by omega) c4) (by omega)
  · have c4 : 0 ≤ L.length := g_ltF L.length 0 (by omega) (by omega) c4
    refine lv_aload_n hx hb dX0_add_7 rfl (lv_at hl 0 rfl) ?_
    refine va_get (D := (dC, dI)) (ci := 0) (v := .int (nI L.length)) (C := RX0) (T := TX0) (N := 2) hx hb hts (in_X0_add_0) hown hK hP 0 rfl rfl 1 (by decide) (hts (.fieldLink RX0 15 "BraidWords$Row" "size" "I") (List.mem_of_getElem? (i := 1) rfl)) (fun _ h9 => h9) rfl dX0_add_8 ?_
    refine lv_aload_n hx hb dX0_add_11 rfl (lv_at hl 0 rfl) ?_
    refine va_get (D := (dC, dI)) (ci := 0) (v := .ref a) (C := RX0) (T := TX0) (N := 2) hx hb hts (in_X0_add_0) hown hK hP 0 rfl rfl 0 (by decide) (hts (.fieldLink RX0 9 "BraidWords$Row" "letters" "[I") (List.mem_of_getElem? (i := 2) rfl)) (fun _ h9 => h9) rfl dX0_add_12 ?_
    refine va_alen (v := 100) hx hb hK hP 1 0 rfl rfl (by decide) dX0_add_15 ?_
    refine lv_icmp_ge (tgt := 39) hx hb dX0_add_16 (by decide) (fun c16 => ?_) (fun c16 => ?_)
    · exact absurd (g_geT L.length 100 (by omega) (by omega) c16) (by omega)
    · have c16 : L.length < 100 := g_geF L.length 100 (by omega) (by omega) c16
      refine lv_aload_n hx hb dX0_add_19 rfl (lv_at hl 0 rfl) ?_
      refine va_get (D := (dC, dI)) (ci := 0) (v := .ref a) (C := RX0) (T := TX0) (N := 2) hx hb hts (in_X0_add_0) hown hK hP 0 rfl rfl 0 (by decide) (hts (.fieldLink RX0 9 "BraidWords$Row" "letters" "[I") (List.mem_of_getElem? (i := 2) rfl)) (fun _ h9 => h9) rfl dX0_add_20 ?_
      refine lv_aload_n hx hb dX0_add_23 rfl (lv_at hl 0 rfl) ?_
      refine va_get (D := (dC, dI)) (ci := 0) (v := .int (nI L.length)) (C := RX0) (T := TX0) (N := 2) hx hb hts (in_X0_add_0) hown hK hP 0 rfl rfl 1 (by decide) (hts (.fieldLink RX0 15 "BraidWords$Row" "size" "I") (List.mem_of_getElem? (i := 1) rfl)) (fun _ h9 => h9) rfl dX0_add_24 ?_
      refine lv_iload_n hx hb dX0_add_27 rfl (lv_at hl 1 rfl) ?_
      refine va_iast hx hb hK hP hD hS 1 0 rfl rfl (vp_in_nI (by omega) (by decide)) dX0_add_28 (fun H locs hP hD hS => ?_)
      rw [show (nI L.length).toNatClampNeg = L.length from nI_clamp (by omega)] at hP hD
      have hP : va_P (dC, dI) vwCl [(h, .inr (0, [.ref a, .int (nI L.length)])), (a, .inl (cA, (100, .inl (upd f L.length x))))] H := hP
      have hD : va_D A [(h, .inr (0, [.ref a, .int (nI L.length)])), (a, .inl (cA, (100, .inl (upd f L.length x))))] := hD
      refine lv_aload_n hx hb dX0_add_29 rfl (lv_at hl 0 rfl) ?_
      refine lv_dup hx hb dX0_add_30 rfl ?_
      refine va_get (D := (dC, dI)) (ci := 0) (v := .int (nI L.length)) (C := RX0) (T := TX0) (N := 2) hx hb hts (in_X0_add_0) hown hK hP 0 rfl rfl 1 (by decide) (hts (.fieldLink RX0 15 "BraidWords$Row" "size" "I") (List.mem_of_getElem? (i := 1) rfl)) (fun _ h9 => h9) rfl dX0_add_31 ?_
      refine lv_iconst (v := 1) hx hb dX0_add_34 (by decide) ?_
      refine lv_iadd hx hb dX0_add_35 ?_
      rw [show (nI L.length) + 1 = nI (L.length + 1) from nI_add L.length 1]
      refine va_put (D := (dC, dI)) (ci := 0) (v := .int (nI (L.length + 1))) (ty := .int) (C := RX0) (T := TX0) (N := 2) hx hb hts (in_X0_add_0) tyX0 tyX0_ok nmX0 hown hK hP hD hS 0 rfl rfl 1 (by decide) (hts (.fieldLink RX0 15 "BraidWords$Row" "size" "I") (List.mem_of_getElem? (i := 1) rfl)) (fun _ h9 => h9) rfl (by decide +kernel) rfl rfl (Nat.le_of_ble_eq_true rfl) dX0_add_36 (fun H locs hP hD hS => ?_)
      have hP : va_P (dC, dI) vwCl [(h, .inr (0, [.ref a, .int (nI (L.length + 1))])), (a, .inl (cA, (100, .inl (upd f L.length x))))] H := hP
      have hD : va_D A [(h, .inr (0, [.ref a, .int (nI (L.length + 1))])), (a, .inl (cA, (100, .inl (upd f L.length x))))] := hD
      rw [show L.length + 1 = (L ++ [x]).length from len_snoc.symm] at hP
      exact g_endMv hx hb hr hlocks hP hS dX0_add_39 (upd f L.length x) rfl (RI_push hR hk)

abbrev mt_X0_clear_rm : Room := { frames := 0, cells := 0, slots := 0, locals := 0 }
set_option maxHeartbeats 4000000 in
set_option maxRecDepth 100000 in
/-- Row.clear() -/
theorem mt_X0_clear (l : Launch) (dC : Nat → ClassId) (dI : Nat → Nat → Nat) (cA : ClassId) (sz : Nat) (h : Nat) (a : Nat) (n : Int32) (f : Nat → Int32) : Met l yX0_clear wsX0_clear mt_X0_clear_rm (va_Pc [.ref h] (gB (dC, dI) [(cA, .int)] [(h, .inr (0, [.ref a, .int n])), (a, .inl (cA, (100, .inl f)))] sz)) (gM (dC, dI) none (fun u : Unit => True) (fun u : Unit => [(h, .inr (0, [.ref a, .int (nI (([] : List Int32).length))])), (a, .inl (cA, (100, .inl f)))]) (va_A [(h, .inr (0, [.ref a, .int n])), (a, .inl (cA, (100, .inl f)))] sz)) 0 0 (va_A [(h, .inr (0, [.ref a, .int n])), (a, .inl (cA, (100, .inl f)))] sz) := by
  refine g_ofM (cc := cX0_clear) (maxL := 1) (ret := none) (by decide) rfl (Nat.le_of_ble_eq_true rfl) (fun p e s m below meth c ls hx hb hr hml hts hown hlocks hP hK hl hin A hA hD hS => ?_)
  have hl : lv_has ls 1 [(0, .ref h)] := hl
  refine lv_aload_n hx hb dX0_clear_0 rfl (lv_at hl 0 rfl) ?_
  refine lv_iconst (v := 0) hx hb dX0_clear_1 (by decide) ?_
  refine va_put (D := (dC, dI)) (ci := 0) (v := .int 0) (ty := .int) (C := RX0) (T := TX0) (N := 2) hx hb hts (in_X0_clear_0) tyX0 tyX0_ok nmX0 hown hK hP hD hS 0 rfl rfl 1 (by decide) (hts (.fieldLink RX0 15 "BraidWords$Row" "size" "I") (List.mem_of_getElem? (i := 1) rfl)) (fun _ h9 => h9) rfl (by decide +kernel) rfl rfl (Nat.le_of_ble_eq_true rfl) dX0_clear_2 (fun H locs hP hD hS => ?_)
  have hP : va_P (dC, dI) vwCl [(h, .inr (0, [.ref a, .int 0])), (a, .inl (cA, (100, .inl f)))] H := hP
  have hD : va_D A [(h, .inr (0, [.ref a, .int 0])), (a, .inl (cA, (100, .inl f)))] := hD
  exact g_endMv hx hb hr hlocks hP hS dX0_clear_5 () rfl trivial

abbrev mt_X0_dropLast_rm : Room := { frames := 0, cells := 0, slots := 0, locals := 0 }
set_option maxHeartbeats 4000000 in
set_option maxRecDepth 100000 in
/-- Row.dropLast(), where there is one -/
theorem mt_X0_dropLast (l : Launch) (dC : Nat → ClassId) (dI : Nat → Nat → Nat) (cA : ClassId) (sz : Nat) (h : Nat) (a : Nat) (L : List Int32) (f : Nat → Int32) (hR : RI L f) (hk : 0 < L.length) : Met l yX0_dropLast wsX0_dropLast mt_X0_dropLast_rm (va_Pc [.ref h] (gB (dC, dI) [(cA, .int)] [(h, .inr (0, [.ref a, .int (nI L.length)])), (a, .inl (cA, (100, .inl f)))] sz)) (gM (dC, dI) none (fun u : Unit => True) (fun u : Unit => [(h, .inr (0, [.ref a, .int (nI L.dropLast.length)])), (a, .inl (cA, (100, .inl f)))]) (va_A [(h, .inr (0, [.ref a, .int (nI L.length)])), (a, .inl (cA, (100, .inl f)))] sz)) 0 0 (va_A [(h, .inr (0, [.ref a, .int (nI L.length)])), (a, .inl (cA, (100, .inl f)))] sz) := by
  refine g_ofM (cc := cX0_dropLast) (maxL := 1) (ret := none) (by decide) rfl (Nat.le_of_ble_eq_true rfl) (fun p e s m below meth c ls hx hb hr hml hts hown hlocks hP hK hl hin A hA hD hS => ?_)
  have hl : lv_has ls 1 [(0, .ref h)] := hl
  have hL := hR.1
  refine lv_aload_n hx hb dX0_dropLast_0 rfl (lv_at hl 0 rfl) ?_
  refine va_get (D := (dC, dI)) (ci := 0) (v := .int (nI L.length)) (C := RX0) (T := TX0) (N := 2) hx hb hts (in_X0_dropLast_0) hown hK hP 0 rfl rfl 1 (by decide) (hts (.fieldLink RX0 15 "BraidWords$Row" "size" "I") (List.mem_of_getElem? (i := 1) rfl)) (fun _ h9 => h9) rfl dX0_dropLast_1 ?_
  refine lv_if_le (tgt := 17) hx hb dX0_dropLast_4 (by decide) (fun c4 => ?_) (fun c4 => ?_)
  · exact absurd (g_leT L.length 0 (by omega) (by omega) c4) (by omega)
  · have c4 : 0 < L.length := g_leF L.length 0 (by omega) (by omega) c4
    refine lv_aload_n hx hb dX0_dropLast_7 rfl (lv_at hl 0 rfl) ?_
    refine lv_dup hx hb dX0_dropLast_8 rfl ?_
    refine va_get (D := (dC, dI)) (ci := 0) (v := .int (nI L.length)) (C := RX0) (T := TX0) (N := 2) hx hb hts (in_X0_dropLast_0) hown hK hP 0 rfl rfl 1 (by decide) (hts (.fieldLink RX0 15 "BraidWords$Row" "size" "I") (List.mem_of_getElem? (i := 1) rfl)) (fun _ h9 => h9) rfl dX0_dropLast_9 ?_
    refine lv_iconst (v := 1) hx hb dX0_dropLast_12 (by decide) ?_
    refine lv_isub hx hb dX0_dropLast_13 ?_
    rw [plI_sub L.length]
    refine va_put (D := (dC, dI)) (ci := 0) (v := .int (plI L.length)) (ty := .int) (C := RX0) (T := TX0) (N := 2) hx hb hts (in_X0_dropLast_0) tyX0 tyX0_ok nmX0 hown hK hP hD hS 0 rfl rfl 1 (by decide) (hts (.fieldLink RX0 15 "BraidWords$Row" "size" "I") (List.mem_of_getElem? (i := 1) rfl)) (fun _ h9 => h9) rfl (by decide +kernel) rfl rfl (Nat.le_of_ble_eq_true rfl) dX0_dropLast_14 (fun H locs hP hD hS => ?_)
    have hP : va_P (dC, dI) vwCl [(h, .inr (0, [.ref a, .int (plI L.length)])), (a, .inl (cA, (100, .inl f)))] H := hP
    have hD : va_D A [(h, .inr (0, [.ref a, .int (plI L.length)])), (a, .inl (cA, (100, .inl f)))] := hD
    rw [show plI L.length = nI L.dropLast.length from by rw [List.length_dropLast]; cases hq : L.length with | zero => omega | succ z => rfl] at hP
    exact g_endMv hx hb hr hlocks hP hS dX0_dropLast_17 () rfl trivial
