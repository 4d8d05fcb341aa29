set_option maxRecDepth 20000 in
theorem in_X1_setRopes_1 : ∀ w ∈ wsX10, w ∈ wsX1_setRopes := by decide +kernel
set_option maxRecDepth 20000 in
theorem in_X1_turn_1 : ∀ w ∈ wsX10, w ∈ wsX1_turn := by decide +kernel
set_option maxRecDepth 20000 in
theorem in_X1_plain_1 : ∀ w ∈ wsX10, w ∈ wsX1_plain := by decide +kernel
theorem hdX0_dropLast : yX0_dropLast.cls = RX0 ∧ yX0_dropLast.cls ≠ "java/lang/invoke/MethodHandle" ∧ yX0_dropLast.cls ≠ "java/lang/invoke/VarHandle" ∧ (parseMethodDescriptor yX0_dropLast.desc).map (fun d => d.parameters.length) = some 0 := by decide +kernel
theorem hdX0_putIn : yX0_putIn.cls = RX0 ∧ yX0_putIn.cls ≠ "java/lang/invoke/MethodHandle" ∧ yX0_putIn.cls ≠ "java/lang/invoke/VarHandle" ∧ (parseMethodDescriptor yX0_putIn.desc).map (fun d => d.parameters.length) = some 2 := by decide +kernel
theorem hdX1_countAnswer : yX1_countAnswer.cls = RX1 ∧ yX1_countAnswer.cls ≠ "java/lang/invoke/MethodHandle" ∧ yX1_countAnswer.cls ≠ "java/lang/invoke/VarHandle" ∧ (parseMethodDescriptor yX1_countAnswer.desc).map (fun d => d.parameters.length) = some 1 := by decide +kernel
theorem hdX1_heightsApart : yX1_heightsApart.cls ≠ "java/lang/invoke/MethodHandle" ∧ yX1_heightsApart.cls ≠ "java/lang/invoke/VarHandle" ∧ (parseMethodDescriptor yX1_heightsApart.desc).map (fun d => d.parameters.length) = some 2 := by decide +kernel
theorem hdX1_requireAnswer : yX1_requireAnswer.cls ≠ "java/lang/invoke/MethodHandle" ∧ yX1_requireAnswer.cls ≠ "java/lang/invoke/VarHandle" ∧ (parseMethodDescriptor yX1_requireAnswer.desc).map (fun d => d.parameters.length) = some 2 := by decide +kernel
theorem hdX1_requireLetter : yX1_requireLetter.cls = RX1 ∧ yX1_requireLetter.cls ≠ "java/lang/invoke/MethodHandle" ∧ yX1_requireLetter.cls ≠ "java/lang/invoke/VarHandle" ∧ (parseMethodDescriptor yX1_requireLetter.desc).map (fun d => d.parameters.length) = some 1 := by decide +kernel
theorem hdX1_requirePlace : yX1_requirePlace.cls ≠ "java/lang/invoke/MethodHandle" ∧ yX1_requirePlace.cls ≠ "java/lang/invoke/VarHandle" ∧ (parseMethodDescriptor yX1_requirePlace.desc).map (fun d => d.parameters.length) = some 2 := by decide +kernel
theorem hdX1_requireRoom : yX1_requireRoom.cls ≠ "java/lang/invoke/MethodHandle" ∧ yX1_requireRoom.cls ≠ "java/lang/invoke/VarHandle" ∧ (parseMethodDescriptor yX1_requireRoom.desc).map (fun d => d.parameters.length) = some 2 := by decide +kernel
theorem hdX1_requireRope : yX1_requireRope.cls = RX1 ∧ yX1_requireRope.cls ≠ "java/lang/invoke/MethodHandle" ∧ yX1_requireRope.cls ≠ "java/lang/invoke/VarHandle" ∧ (parseMethodDescriptor yX1_requireRope.desc).map (fun d => d.parameters.length) = some 1 := by decide +kernel
theorem hdX1_requireWord : yX1_requireWord.cls ≠ "java/lang/invoke/MethodHandle" ∧ yX1_requireWord.cls ≠ "java/lang/invoke/VarHandle" ∧ (parseMethodDescriptor yX1_requireWord.desc).map (fun d => d.parameters.length) = some 1 := by decide +kernel
theorem hdX1_rowOf : yX1_rowOf.cls = RX1 ∧ yX1_rowOf.cls ≠ "java/lang/invoke/MethodHandle" ∧ yX1_rowOf.cls ≠ "java/lang/invoke/VarHandle" ∧ (parseMethodDescriptor yX1_rowOf.desc).map (fun d => d.parameters.length) = some 1 := by decide +kernel
theorem hdX1_sameAnswer : yX1_sameAnswer.cls = RX1 ∧ yX1_sameAnswer.cls ≠ "java/lang/invoke/MethodHandle" ∧ yX1_sameAnswer.cls ≠ "java/lang/invoke/VarHandle" ∧ (parseMethodDescriptor yX1_sameAnswer.desc).map (fun d => d.parameters.length) = some 1 := by decide +kernel
theorem hdX1_signAnswer : yX1_signAnswer.cls = RX1 ∧ yX1_signAnswer.cls ≠ "java/lang/invoke/MethodHandle" ∧ yX1_signAnswer.cls ≠ "java/lang/invoke/VarHandle" ∧ (parseMethodDescriptor yX1_signAnswer.desc).map (fun d => d.parameters.length) = some 1 := by decide +kernel
theorem hdX1_signsOfCrossings : yX1_signsOfCrossings.cls ≠ "java/lang/invoke/MethodHandle" ∧ yX1_signsOfCrossings.cls ≠ "java/lang/invoke/VarHandle" ∧ (parseMethodDescriptor yX1_signsOfCrossings.desc).map (fun d => d.parameters.length) = some 3 := by decide +kernel
theorem hdX1_thinkOfDifference : yX1_thinkOfDifference.cls = RX1 ∧ yX1_thinkOfDifference.cls ≠ "java/lang/invoke/MethodHandle" ∧ yX1_thinkOfDifference.cls ≠ "java/lang/invoke/VarHandle" ∧ (parseMethodDescriptor yX1_thinkOfDifference.desc).map (fun d => d.parameters.length) = some 0 := by decide +kernel
abbrev mt_X1_setRopes_rm : Room := { frames := 1, cells := 0, slots := 0, locals := 20 }
set_option maxHeartbeats 4000000 in
set_option maxRecDepth 100000 in
/-- setRopes -/
theorem mt_X1_setRopes (l : Launch) (dC : Nat → ClassId) (dI : Nat → Nat → Nat) (cA : ClassId) (sz : Nat) (x0 : Nat) (r0 : Nat) (r1 : Nat) (r2 : Nat) (r3 : Nat) (rn : Nat) (a0 : Nat) (a1 : Nat) (L0 : List Int32) (f0 : Nat → Int32) (L1 : List Int32) (f1 : Nat → Int32) (rq : Nat) (h3 : 3 ≤ rq) (h6 : rq ≤ 6) : Met l yX1_setRopes wsX1_setRopes mt_X1_setRopes_rm (va_Pc [.ref x0, .int (nI rq)] (gB (dC, dI) [(cA, .int)] [(x0, .inr (1, [.ref r0, .ref r1, .ref r2, .ref r3, .int (nI rn)])), (r0, .inr (0, [.ref a0, .int (nI L0.length)])), (a0, .inl (cA, (100, .inl f0))), (r1, .inr (0, [.ref a1, .int (nI L1.length)])), (a1, .inl (cA, (100, .inl f1)))] sz)) (gM (dC, dI) (some (.int (nI rn))) (fun u : Unit => True) (fun u : Unit => [(x0, .inr (1, [.ref r0, .ref r1, .ref r2, .ref r3, .int (nI rq)])), (r0, .inr (0, [.ref a0, .int (nI (([] : List Int32).length))])), (a0, .inl (cA, (100, .inl f0))), (r1, .inr (0, [.ref a1, .int (nI (([] : List Int32).length))])), (a1, .inl (cA, (100, .inl f1)))]) (va_A [(x0, .inr (1, [.ref r0, .ref r1, .ref r2, .ref r3, .int (nI rn)])), (r0, .inr (0, [.ref a0, .int (nI L0.length)])), (a0, .inl (cA, (100, .inl f0))), (r1, .inr (0, [.ref a1, .int (nI L1.length)])), (a1, .inl (cA, (100, .inl f1)))] sz)) 0 0 (va_A [(x0, .inr (1, [.ref r0, .ref r1, .ref r2, .ref r3, .int (nI rn)])), (r0, .inr (0, [.ref a0, .int (nI L0.length)])), (a0, .inl (cA, (100, .inl f0))), (r1, .inr (0, [.ref a1, .int (nI L1.length)])), (a1, .inl (cA, (100, .inl f1)))] sz) := by
  refine g_ofM (cc := cX1_setRopes) (maxL := 3) (ret := (some .int)) (by decide) rfl (Nat.le_of_ble_eq_true rfl) (fun p e s m below meth c ls hx hb hr hml hts hown hlocks hP hK hl hin A hA hD hS => ?_)
  have hl : lv_has ls 3 [(0, .ref x0), (1, .int (nI rq))] := hl
  refine lv_iload_n hx hb dX1_setRopes_0 rfl (lv_at hl 1 rfl) ?_
  refine lv_iconst (v := 3) hx hb dX1_setRopes_1 (by decide) ?_
  refine lv_icmp_lt (tgt := 11) hx hb dX1_setRopes_2 (by decide) (fun c2 => ?_) (fun c2 => ?_)
  · exact absurd (g_ltT rq 3 (by omega) (by omega) c2) (by omega)
  · have c2 : 3 ≤ rq := g_ltF rq 3 (by omega) (by omega) c2
    refine lv_iload_n hx hb dX1_setRopes_5 rfl (lv_at hl 1 rfl) ?_
    refine lv_bipush (v := 6) hx hb dX1_setRopes_6 (by decide) ?_
    refine lv_icmp_le (tgt := 21) hx hb dX1_setRopes_8 (by decide) (fun c8 => ?_) (fun c8 => ?_)
    · have c8 : rq ≤ 6 := g_leT rq 6 (by omega) (by omega) c8
      refine lv_aload_n hx hb dX1_setRopes_21 rfl (lv_at hl 0 rfl) ?_
      refine va_get (D := (dC, dI)) (ci := 1) (v := .int (nI rn)) (C := RX1) (T := TX1) (N := 5) hx hb hts (in_X1_setRopes_1) hown hK hP 0 rfl rfl 4 (by decide) (hts (.fieldLink RX1 25 "BraidWords" "ropes" "I") (List.mem_of_getElem? (i := 3) rfl)) (fun _ h9 => h9) rfl dX1_setRopes_22 ?_
      refine lv_istore_n (lv' := [(2, .int (nI rn)), (0, .ref x0), (1, .int (nI rq))]) hx hb dX1_setRopes_25 rfl hl (by decide) rfl (fun ls hl => ?_)
      refine lv_aload_n hx hb dX1_setRopes_26 rfl (lv_at hl 1 rfl) ?_
      refine lv_iload_n hx hb dX1_setRopes_27 rfl (lv_at hl 2 rfl) ?_
      refine va_put (D := (dC, dI)) (ci := 1) (v := .int (nI rq)) (ty := .int) (C := RX1) (T := TX1) (N := 5) hx hb hts (in_X1_setRopes_1) tyX1 tyX1_ok nmX1 hown hK hP hD hS 0 rfl rfl 4 (by decide) (hts (.fieldLink RX1 25 "BraidWords" "ropes" "I") (List.mem_of_getElem? (i := 3) rfl)) (fun _ h9 => h9) rfl (by decide +kernel) rfl rfl (Nat.le_of_ble_eq_true rfl) dX1_setRopes_28 (fun H locs hP hD hS => ?_)
      have hP : va_P (dC, dI) vwCl [(x0, .inr (1, [.ref r0, .ref r1, .ref r2, .ref r3, .int (nI rq)])), (r0, .inr (0, [.ref a0, .int (nI L0.length)])), (a0, .inl (cA, (100, .inl f0))), (r1, .inr (0, [.ref a1, .int (nI L1.length)])), (a1, .inl (cA, (100, .inl f1)))] H := hP
      have hD : va_D A [(x0, .inr (1, [.ref r0, .ref r1, .ref r2, .ref r3, .int (nI rq)])), (r0, .inr (0, [.ref a0, .int (nI L0.length)])), (a0, .inl (cA, (100, .inl f0))), (r1, .inr (0, [.ref a1, .int (nI L1.length)])), (a1, .inl (cA, (100, .inl f1)))] := hD
      refine lv_aload_n hx hb dX1_setRopes_31 rfl (lv_at hl 1 rfl) ?_
      refine va_get (D := (dC, dI)) (ci := 1) (v := .ref r0) (C := RX1) (T := TX1) (N := 5) hx hb hts (in_X1_setRopes_1) hown hK hP 0 rfl rfl 0 (by decide) (hts (.fieldLink RX1 10 "BraidWords" "word0" "LBraidWords$Row;") (List.mem_of_getElem? (i := 4) rfl)) (fun _ h9 => h9) rfl dX1_setRopes_32 ?_
      refine g_MVv (As := []) (rest := []) ⟨hx, hb, hml, hown, hts⟩ (mt_X0_clear l dC dI cA H.size r0 a0 (nI L0.length) f0) (cwV 0 hts gX1_setRopes_X0_clear rfl rfl rfl hdX0_clear ⟨Nat.le_of_ble_eq_true rfl, Nat.le_of_ble_eq_true rfl⟩) hP hK hD hS hA [1, 2] (by decide) rfl (va_recv hK hP (ci := 0) (q0 := 1) rfl rfl) rfl hl.1 rfl (Nat.le_of_ble_eq_true rfl) dX1_setRopes_35 (Nat.zero_le _) (Nat.zero_le _) (fun u9 => [(x0, .inr (1, [.ref r0, .ref r1, .ref r2, .ref r3, .int (nI rq)])), (r0, .inr (0, [.ref a0, .int (nI (([] : List Int32).length))])), (a0, .inl (cA, (100, .inl f0))), (r1, .inr (0, [.ref a1, .int (nI L1.length)])), (a1, .inl (cA, (100, .inl f1)))]) (fun _ => rfl) (fun _ => rfl) (fun u H locs hw_1 hP hD hS => ?_)
      have hw_1 : True := hw_1
      have hP : va_P (dC, dI) vwCl [(x0, .inr (1, [.ref r0, .ref r1, .ref r2, .ref r3, .int (nI rq)])), (r0, .inr (0, [.ref a0, .int (nI (([] : List Int32).length))])), (a0, .inl (cA, (100, .inl f0))), (r1, .inr (0, [.ref a1, .int (nI L1.length)])), (a1, .inl (cA, (100, .inl f1)))] H := hP
      have hD : va_D A [(x0, .inr (1, [.ref r0, .ref r1, .ref r2, .ref r3, .int (nI rq)])), (r0, .inr (0, [.ref a0, .int (nI (([] : List Int32).length))])), (a0, .inl (cA, (100, .inl f0))), (r1, .inr (0, [.ref a1, .int (nI L1.length)])), (a1, .inl (cA, (100, .inl f1)))] := hD
      refine lv_aload_n hx hb dX1_setRopes_38 rfl (lv_at hl 1 rfl) ?_
      refine va_get (D := (dC, dI)) (ci := 1) (v := .ref r1) (C := RX1) (T := TX1) (N := 5) hx hb hts (in_X1_setRopes_1) hown hK hP 0 rfl rfl 1 (by decide) (hts (.fieldLink RX1 16 "BraidWords" "word1" "LBraidWords$Row;") (List.mem_of_getElem? (i := 5) rfl)) (fun _ h9 => h9) rfl dX1_setRopes_39 ?_
      refine g_MVv (As := []) (rest := []) ⟨hx, hb, hml, hown, hts⟩ (mt_X0_clear l dC dI cA H.size r1 a1 (nI L1.length) f1) (cwV 0 hts gX1_setRopes_X0_clear rfl rfl rfl hdX0_clear ⟨Nat.le_of_ble_eq_true rfl, Nat.le_of_ble_eq_true rfl⟩) hP hK hD hS hA [3, 4] (by decide) rfl (va_recv hK hP (ci := 0) (q0 := 3) rfl rfl) rfl hl.1 rfl (Nat.le_of_ble_eq_true rfl) dX1_setRopes_42 (Nat.zero_le _) (Nat.zero_le _) (fun u9 => [(x0, .inr (1, [.ref r0, .ref r1, .ref r2, .ref r3, .int (nI rq)])), (r0, .inr (0, [.ref a0, .int (nI (([] : List Int32).length))])), (a0, .inl (cA, (100, .inl f0))), (r1, .inr (0, [.ref a1, .int (nI (([] : List Int32).length))])), (a1, .inl (cA, (100, .inl f1)))]) (fun _ => rfl) (fun _ => rfl) (fun u H locs hw_2 hP hD hS => ?_)
      have hw_2 : True := hw_2
      have hP : va_P (dC, dI) vwCl [(x0, .inr (1, [.ref r0, .ref r1, .ref r2, .ref r3, .int (nI rq)])), (r0, .inr (0, [.ref a0, .int (nI (([] : List Int32).length))])), (a0, .inl (cA, (100, .inl f0))), (r1, .inr (0, [.ref a1, .int (nI (([] : List Int32).length))])), (a1, .inl (cA, (100, .inl f1)))] H := hP
      have hD : va_D A [(x0, .inr (1, [.ref r0, .ref r1, .ref r2, .ref r3, .int (nI rq)])), (r0, .inr (0, [.ref a0, .int (nI (([] : List Int32).length))])), (a0, .inl (cA, (100, .inl f0))), (r1, .inr (0, [.ref a1, .int (nI (([] : List Int32).length))])), (a1, .inl (cA, (100, .inl f1)))] := hD
      refine lv_iload_n hx hb dX1_setRopes_45 rfl (lv_at hl 0 rfl) ?_
      exact g_endMi hx hb hr hlocks hP hS dX1_setRopes_46 () rfl rfl trivial
    · exact absurd (g_leF rq 6 (by omega) (by omega) c8) (by omega)

abbrev mt_X1_twist0_rm : Room := { frames := 2, cells := 0, slots := 0, locals := 41 }
set_option maxHeartbeats 4000000 in
set_option maxRecDepth 100000 in
/-- twist -/
theorem mt_X1_twist0 (l : Launch) (dC : Nat → ClassId) (dI : Nat → Nat → Nat) (cA : ClassId) (sz : Nat) (x0 : Nat) (r0 : Nat) (r1 : Nat) (r2 : Nat) (r3 : Nat) (rn : Nat) (a0 : Nat) (L : List Int32) (f : Nat → Int32) (x : Int32) (hR : RI L f) (h0 : ¬ x = 0) (h1 : ¬ x ≤ -nI rn) (h2 : x < nI rn) (hk : L.length < 30) : Met l yX1_twist wsX1_twist mt_X1_twist0_rm (va_Pc [.ref x0, .int (nI 0), .int x] (gB (dC, dI) [(cA, .int)] [(x0, .inr (1, [.ref r0, .ref r1, .ref r2, .ref r3, .int (nI rn)])), (r0, .inr (0, [.ref a0, .int (nI L.length)])), (a0, .inl (cA, (100, .inl f)))] sz)) (gM (dC, dI) (some (.int (nI (L ++ [x]).length))) (fun u : (Nat → Int32) => RI (L ++ [x]) u) (fun u : (Nat → Int32) => [(x0, .inr (1, [.ref r0, .ref r1, .ref r2, .ref r3, .int (nI rn)])), (r0, .inr (0, [.ref a0, .int (nI ((L ++ [x]).length))])), (a0, .inl (cA, (100, .inl u)))]) (va_A [(x0, .inr (1, [.ref r0, .ref r1, .ref r2, .ref r3, .int (nI rn)])), (r0, .inr (0, [.ref a0, .int (nI L.length)])), (a0, .inl (cA, (100, .inl f)))] sz)) 0 0 (va_A [(x0, .inr (1, [.ref r0, .ref r1, .ref r2, .ref r3, .int (nI rn)])), (r0, .inr (0, [.ref a0, .int (nI L.length)])), (a0, .inl (cA, (100, .inl f)))] sz) := by
  refine g_ofM (cc := cX1_twist) (maxL := 4) (ret := (some .int)) (by decide) rfl (Nat.le_of_ble_eq_true rfl) (fun p e s m below meth c ls hx hb hr hml hts hown hlocks hP hK hl hin A hA hD hS => ?_)
  have hl : lv_has ls 4 [(0, .ref x0), (1, .int (nI 0)), (2, .int x)] := hl
  have hL := hR.1
  refine lv_iload_n hx hb dX1_twist_0 rfl (lv_at hl 1 rfl) ?_
  refine g_RSv (As := [.int (nI 0)]) (rest := []) ⟨hx, hb, hml, hown, hts⟩ (mt_X1_requireWord l dC dI cA s.heap.size 0 (by first | omega | (simp only [List.length_append, List.length_cons, List.length_nil, List.length_set, turnL_len]; omega))) (va_cwS 1 hts gX1_twist_X1_requireWord rfl rfl rfl hdX1_requireWord ⟨Nat.le_of_ble_eq_true rfl, Nat.le_of_ble_eq_true rfl⟩) hP hK hD [] (by decide) rfl rfl hl.1 rfl (Nat.le_of_ble_eq_true rfl) dX1_twist_1 (Nat.zero_le _) (Nat.zero_le _) ?_
  refine lv_aload_n hx hb dX1_twist_4 rfl (lv_at hl 0 rfl) ?_
  refine lv_iload_n hx hb dX1_twist_5 rfl (lv_at hl 2 rfl) ?_
  refine g_RVv (As := [.int x]) (rest := []) ⟨hx, hb, hml, hown, hts⟩ (mt_X1_requireLetter l dC dI cA s.heap.size x0 r0 r1 r2 r3 (nI rn) x (by first | omega | (simp only [List.length_append, List.length_cons, List.length_nil, List.length_set, turnL_len]; omega)) (by first | omega | (simp only [List.length_append, List.length_cons, List.length_nil, List.length_set, turnL_len]; omega)) (by first | omega | (simp only [List.length_append, List.length_cons, List.length_nil, List.length_set, turnL_len]; omega))) (cwV 1 hts gX1_twist_X1_requireLetter rfl rfl rfl hdX1_requireLetter ⟨Nat.le_of_ble_eq_true rfl, Nat.le_of_ble_eq_true rfl⟩) hP hK hD [0] (by decide) rfl (va_recv hK hP (ci := 1) (q0 := 0) rfl rfl) rfl hl.1 rfl (Nat.le_of_ble_eq_true rfl) dX1_twist_6 (Nat.zero_le _) (Nat.zero_le _) ?_
  refine lv_aload_n hx hb dX1_twist_9 rfl (lv_at hl 0 rfl) ?_
  refine lv_iload_n hx hb dX1_twist_10 rfl (lv_at hl 1 rfl) ?_
  refine g_RVr (As := [.int (nI 0)]) (rest := []) ⟨hx, hb, hml, hown, hts⟩ (mt_X1_rowOf0 l dC dI cA s.heap.size x0 r0 r1 r2 r3 (nI rn)) (cwV 1 hts gX1_twist_X1_rowOf rfl rfl rfl hdX1_rowOf ⟨Nat.le_of_ble_eq_true rfl, Nat.le_of_ble_eq_true rfl⟩) hP hK hD [0] (by decide) rfl (va_recv hK hP (ci := 1) (q0 := 0) rfl rfl) rfl hl.1 rfl (Nat.le_of_ble_eq_true rfl) dX1_twist_11 (Nat.zero_le _) (Nat.zero_le _) ?_
  refine lv_astore_n (lv' := [(3, .ref r0), (0, .ref x0), (1, .int (nI 0)), (2, .int x)]) hx hb dX1_twist_14 rfl hl (by decide) rfl (fun ls hl => ?_)
  refine lv_aload_n hx hb dX1_twist_15 rfl (lv_at hl 0 rfl) ?_
  refine lv_iconst (v := 1) hx hb dX1_twist_16 (by decide) ?_
  refine g_RSv (As := [.ref r0, .int 1]) (rest := []) ⟨hx, hb, hml, hown, hts⟩ (mt_X1_requireRoom l dC dI cA s.heap.size r0 a0 L f 1 (room_ok L.length 1 (by omega))) (va_cwS 2 hts gX1_twist_X1_requireRoom rfl rfl rfl hdX1_requireRoom ⟨Nat.le_of_ble_eq_true rfl, Nat.le_of_ble_eq_true rfl⟩) hP hK hD [1, 2] (by decide) rfl rfl hl.1 rfl (Nat.le_of_ble_eq_true rfl) dX1_twist_17 (Nat.zero_le _) (Nat.zero_le _) ?_
  refine lv_aload_n hx hb dX1_twist_20 rfl (lv_at hl 0 rfl) ?_
  refine lv_iload_n hx hb dX1_twist_21 rfl (lv_at hl 3 rfl) ?_
  refine g_MVv (As := [.int x]) (rest := []) ⟨hx, hb, hml, hown, hts⟩ (mt_X0_add l dC dI cA s.heap.size r0 a0 L f x hR (by first | omega | (simp only [List.length_append, List.length_cons, List.length_nil, List.length_set, turnL_len]; omega))) (cwV 1 hts gX1_twist_X0_add rfl rfl rfl hdX0_add ⟨Nat.le_of_ble_eq_true rfl, Nat.le_of_ble_eq_true rfl⟩) hP hK hD hS hA [1, 2] (by decide) rfl (va_recv hK hP (ci := 0) (q0 := 1) rfl rfl) rfl hl.1 rfl (Nat.le_of_ble_eq_true rfl) dX1_twist_22 (Nat.zero_le _) (Nat.zero_le _) (fun u9 => [(x0, .inr (1, [.ref r0, .ref r1, .ref r2, .ref r3, .int (nI rn)])), (r0, .inr (0, [.ref a0, .int (nI ((L ++ [x]).length))])), (a0, .inl (cA, (100, .inl u9)))]) (fun _ => rfl) (fun _ => rfl) (fun u H locs hw_2 hP hD hS => ?_)
  obtain ⟨f1_1, rfl⟩ : ∃ z, z = u := ⟨_, rfl⟩
  have hw_2 : RI (L ++ [x]) f1_1 := hw_2
  have hP : va_P (dC, dI) vwCl [(x0, .inr (1, [.ref r0, .ref r1, .ref r2, .ref r3, .int (nI rn)])), (r0, .inr (0, [.ref a0, .int (nI ((L ++ [x]).length))])), (a0, .inl (cA, (100, .inl f1_1)))] H := hP
  have hD : va_D A [(x0, .inr (1, [.ref r0, .ref r1, .ref r2, .ref r3, .int (nI rn)])), (r0, .inr (0, [.ref a0, .int (nI ((L ++ [x]).length))])), (a0, .inl (cA, (100, .inl f1_1)))] := hD
  refine lv_aload_n hx hb dX1_twist_25 rfl (lv_at hl 0 rfl) ?_
  refine g_RVi (As := []) (rest := []) ⟨hx, hb, hml, hown, hts⟩ (mt_X0_size l dC dI cA H.size r0 a0 (nI ((L ++ [x]).length)) f1_1) (cwV 0 hts gX1_twist_X0_size rfl rfl rfl hdX0_size ⟨Nat.le_of_ble_eq_true rfl, Nat.le_of_ble_eq_true rfl⟩) hP hK hD [1, 2] (by decide) rfl (va_recv hK hP (ci := 0) (q0 := 1) rfl rfl) rfl hl.1 rfl (Nat.le_of_ble_eq_true rfl) dX1_twist_26 (Nat.zero_le _) (Nat.zero_le _) ?_
  exact g_endMi hx hb hr hlocks hP hS dX1_twist_29 f1_1 rfl rfl hw_2

abbrev mt_X1_untwist0_rm : Room := { frames := 1, cells := 0, slots := 0, locals := 21 }
set_option maxHeartbeats 4000000 in
set_option maxRecDepth 100000 in
/-- untwist -/
theorem mt_X1_untwist0 (l : Launch) (dC : Nat → ClassId) (dI : Nat → Nat → Nat) (cA : ClassId) (sz : Nat) (x0 : Nat) (r0 : Nat) (r1 : Nat) (r2 : Nat) (r3 : Nat) (rn : Nat) (a0 : Nat) (L : List Int32) (f : Nat → Int32) (hR : RI L f) (hk : 0 < L.length) : Met l yX1_untwist wsX1_untwist mt_X1_untwist0_rm (va_Pc [.ref x0, .int (nI 0)] (gB (dC, dI) [(cA, .int)] [(x0, .inr (1, [.ref r0, .ref r1, .ref r2, .ref r3, .int (nI rn)])), (r0, .inr (0, [.ref a0, .int (nI L.length)])), (a0, .inl (cA, (100, .inl f)))] sz)) (gM (dC, dI) (some (.int (atL L (L.length - 1)))) (fun u : Unit => True) (fun u : Unit => [(x0, .inr (1, [.ref r0, .ref r1, .ref r2, .ref r3, .int (nI rn)])), (r0, .inr (0, [.ref a0, .int (nI L.dropLast.length)])), (a0, .inl (cA, (100, .inl f)))]) (va_A [(x0, .inr (1, [.ref r0, .ref r1, .ref r2, .ref r3, .int (nI rn)])), (r0, .inr (0, [.ref a0, .int (nI L.length)])), (a0, .inl (cA, (100, .inl f)))] sz)) 0 0 (va_A [(x0, .inr (1, [.ref r0, .ref r1, .ref r2, .ref r3, .int (nI rn)])), (r0, .inr (0, [.ref a0, .int (nI L.length)])), (a0, .inl (cA, (100, .inl f)))] sz) := by
  refine g_ofM (cc := cX1_untwist) (maxL := 4) (ret := (some .int)) (by decide) rfl (Nat.le_of_ble_eq_true rfl) (fun p e s m below meth c ls hx hb hr hml hts hown hlocks hP hK hl hin A hA hD hS => ?_)
  have hl : lv_has ls 4 [(0, .ref x0), (1, .int (nI 0))] := hl
  have hL := hR.1
  refine lv_iload_n hx hb dX1_untwist_0 rfl (lv_at hl 1 rfl) ?_
  refine g_RSv (As := [.int (nI 0)]) (rest := []) ⟨hx, hb, hml, hown, hts⟩ (mt_X1_requireWord l dC dI cA s.heap.size 0 (by first | omega | (simp only [List.length_append, List.length_cons, List.length_nil, List.length_set, turnL_len]; omega))) (va_cwS 1 hts gX1_untwist_X1_requireWord rfl rfl rfl hdX1_requireWord ⟨Nat.le_of_ble_eq_true rfl, Nat.le_of_ble_eq_true rfl⟩) hP hK hD [] (by decide) rfl rfl hl.1 rfl (Nat.le_of_ble_eq_true rfl) dX1_untwist_1 (Nat.zero_le _) (Nat.zero_le _) ?_
  refine lv_aload_n hx hb dX1_untwist_4 rfl (lv_at hl 0 rfl) ?_
  refine lv_iload_n hx hb dX1_untwist_5 rfl (lv_at hl 1 rfl) ?_
  refine g_RVr (As := [.int (nI 0)]) (rest := []) ⟨hx, hb, hml, hown, hts⟩ (mt_X1_rowOf0 l dC dI cA s.heap.size x0 r0 r1 r2 r3 (nI rn)) (cwV 1 hts gX1_untwist_X1_rowOf rfl rfl rfl hdX1_rowOf ⟨Nat.le_of_ble_eq_true rfl, Nat.le_of_ble_eq_true rfl⟩) hP hK hD [0] (by decide) rfl (va_recv hK hP (ci := 1) (q0 := 0) rfl rfl) rfl hl.1 rfl (Nat.le_of_ble_eq_true rfl) dX1_untwist_6 (Nat.zero_le _) (Nat.zero_le _) ?_
  refine lv_astore_n (lv' := [(2, .ref r0), (0, .ref x0), (1, .int (nI 0))]) hx hb dX1_untwist_9 rfl hl (by decide) rfl (fun ls hl => ?_)
  refine lv_aload_n hx hb dX1_untwist_10 rfl (lv_at hl 0 rfl) ?_
  refine g_RVi (As := []) (rest := []) ⟨hx, hb, hml, hown, hts⟩ (mt_X0_size l dC dI cA s.heap.size r0 a0 (nI L.length) f) (cwV 0 hts gX1_untwist_X0_size rfl rfl rfl hdX0_size ⟨Nat.le_of_ble_eq_true rfl, Nat.le_of_ble_eq_true rfl⟩) hP hK hD [1, 2] (by decide) rfl (va_recv hK hP (ci := 0) (q0 := 1) rfl rfl) rfl hl.1 rfl (Nat.le_of_ble_eq_true rfl) dX1_untwist_11 (Nat.zero_le _) (Nat.zero_le _) ?_
  refine lv_if_ne (tgt := 27) hx hb dX1_untwist_14 (by decide) (fun c14 => ?_) (fun c14 => ?_)
  · have c14 : ¬ L.length = 0 := g_neT L.length 0 (by omega) (by omega) c14
    refine lv_aload_n hx hb dX1_untwist_27 rfl (lv_at hl 0 rfl) ?_
    refine lv_aload_n hx hb dX1_untwist_28 rfl (lv_at hl 0 rfl) ?_
    refine g_RVi (As := []) (rest := [.ref r0]) ⟨hx, hb, hml, hown, hts⟩ (mt_X0_size l dC dI cA s.heap.size r0 a0 (nI L.length) f) (cwV 0 hts gX1_untwist_X0_size rfl rfl rfl hdX0_size ⟨Nat.le_of_ble_eq_true rfl, Nat.le_of_ble_eq_true rfl⟩) hP hK hD [1, 2] (by decide) rfl (va_recv hK hP (ci := 0) (q0 := 1) rfl rfl) rfl hl.1 rfl (Nat.le_of_ble_eq_true rfl) dX1_untwist_29 (Nat.zero_le _) (Nat.zero_le _) ?_
    refine lv_iconst (v := 1) hx hb dX1_untwist_32 (by decide) ?_
    refine lv_isub hx hb dX1_untwist_33 ?_
    rw [show nI L.length - 1 = nI (L.length - 1) from (plI_sub _).trans (plI_pred (by omega))]
    refine g_RVi (As := [.int (nI (L.length - 1))]) (rest := []) ⟨hx, hb, hml, hown, hts⟩ (mt_X0_at l dC dI cA s.heap.size r0 a0 L f (L.length - 1) hR (by first | omega | (simp only [List.length_append, List.length_cons, List.length_nil, List.length_set, turnL_len]; omega))) (cwV 1 hts gX1_untwist_X0_at rfl rfl rfl hdX0_at ⟨Nat.le_of_ble_eq_true rfl, Nat.le_of_ble_eq_true rfl⟩) hP hK hD [1, 2] (by decide) rfl (va_recv hK hP (ci := 0) (q0 := 1) rfl rfl) rfl hl.1 rfl (Nat.le_of_ble_eq_true rfl) dX1_untwist_34 (Nat.zero_le _) (Nat.zero_le _) ?_
    refine lv_istore_n (lv' := [(3, .int (atL L (L.length - 1))), (2, .ref r0), (0, .ref x0), (1, .int (nI 0))]) hx hb dX1_untwist_37 rfl hl (by decide) rfl (fun ls hl => ?_)
    refine lv_aload_n hx hb dX1_untwist_38 rfl (lv_at hl 1 rfl) ?_
    refine g_MVv (As := []) (rest := []) ⟨hx, hb, hml, hown, hts⟩ (mt_X0_dropLast l dC dI cA s.heap.size r0 a0 L f hR (by first | omega | (simp only [List.length_append, List.length_cons, List.length_nil, List.length_set, turnL_len]; omega))) (cwV 0 hts gX1_untwist_X0_dropLast rfl rfl rfl hdX0_dropLast ⟨Nat.le_of_ble_eq_true rfl, Nat.le_of_ble_eq_true rfl⟩) hP hK hD hS hA [1, 2] (by decide) rfl (va_recv hK hP (ci := 0) (q0 := 1) rfl rfl) rfl hl.1 rfl (Nat.le_of_ble_eq_true rfl) dX1_untwist_39 (Nat.zero_le _) (Nat.zero_le _) (fun u9 => [(x0, .inr (1, [.ref r0, .ref r1, .ref r2, .ref r3, .int (nI rn)])), (r0, .inr (0, [.ref a0, .int (nI L.dropLast.length)])), (a0, .inl (cA, (100, .inl f)))]) (fun _ => rfl) (fun _ => rfl) (fun u H locs hw_1 hP hD hS => ?_)
    have hw_1 : True := hw_1
    have hP : va_P (dC, dI) vwCl [(x0, .inr (1, [.ref r0, .ref r1, .ref r2, .ref r3, .int (nI rn)])), (r0, .inr (0, [.ref a0, .int (nI L.dropLast.length)])), (a0, .inl (cA, (100, .inl f)))] H := hP
    have hD : va_D A [(x0, .inr (1, [.ref r0, .ref r1, .ref r2, .ref r3, .int (nI rn)])), (r0, .inr (0, [.ref a0, .int (nI L.dropLast.length)])), (a0, .inl (cA, (100, .inl f)))] := hD
    refine lv_iload_n hx hb dX1_untwist_42 rfl (lv_at hl 0 rfl) ?_
    exact g_endMi hx hb hr hlocks hP hS dX1_untwist_43 () rfl rfl trivial
  · exact absurd (g_neF L.length 0 (by omega) (by omega) c14) (by omega)

abbrev mt_X1_turn0_rm : Room := { frames := 2, cells := 0, slots := 0, locals := 44 }
set_option maxHeartbeats 4000000 in
set_option maxRecDepth 100000 in
/-- turn -/
theorem mt_X1_turn0 (l : Launch) (dC : Nat → ClassId) (dI : Nat → Nat → Nat) (cA : ClassId) (sz : Nat) (x0 : Nat) (r0 : Nat) (r1 : Nat) (r2 : Nat) (r3 : Nat) (rn : Nat) (a0 : Nat) (L : List Int32) (f : Nat → Int32) (a3 : Nat) (n3 : Int32) (f3 : Nat → Int32) (hR : RI L f) : Met l yX1_turn wsX1_turn mt_X1_turn0_rm (va_Pc [.ref x0, .int (nI 0)] (gB (dC, dI) [(cA, .int)] [(x0, .inr (1, [.ref r0, .ref r1, .ref r2, .ref r3, .int (nI rn)])), (r0, .inr (0, [.ref a0, .int (nI L.length)])), (a0, .inl (cA, (100, .inl f))), (r3, .inr (0, [.ref a3, .int n3])), (a3, .inl (cA, (100, .inl f3)))] sz)) (gM (dC, dI) (some (.int (nI (turnL L).length))) (fun u : (Nat → Int32) × (Nat → Int32) => RI (turnL L) u.1) (fun u : (Nat → Int32) × (Nat → Int32) => [(x0, .inr (1, [.ref r0, .ref r1, .ref r2, .ref r3, .int (nI rn)])), (r0, .inr (0, [.ref a0, .int (nI ((turnL L).length))])), (a0, .inl (cA, (100, .inl u.1))), (r3, .inr (0, [.ref a3, .int (nI ((turnL L).length))])), (a3, .inl (cA, (100, .inl u.2)))]) (va_A [(x0, .inr (1, [.ref r0, .ref r1, .ref r2, .ref r3, .int (nI rn)])), (r0, .inr (0, [.ref a0, .int (nI L.length)])), (a0, .inl (cA, (100, .inl f))), (r3, .inr (0, [.ref a3, .int n3])), (a3, .inl (cA, (100, .inl f3)))] sz)) 0 0 (va_A [(x0, .inr (1, [.ref r0, .ref r1, .ref r2, .ref r3, .int (nI rn)])), (r0, .inr (0, [.ref a0, .int (nI L.length)])), (a0, .inl (cA, (100, .inl f))), (r3, .inr (0, [.ref a3, .int n3])), (a3, .inl (cA, (100, .inl f3)))] sz) := by
  refine g_ofM (cc := cX1_turn) (maxL := 3) (ret := (some .int)) (by decide) rfl (Nat.le_of_ble_eq_true rfl) (fun p e s m below meth c ls hx hb hr hml hts hown hlocks hP hK hl hin A hA hD hS => ?_)
  have hl : lv_has ls 3 [(0, .ref x0), (1, .int (nI 0))] := hl
  have hL := hR.1
  refine lv_iload_n hx hb dX1_turn_0 rfl (lv_at hl 1 rfl) ?_
  refine g_RSv (As := [.int (nI 0)]) (rest := []) ⟨hx, hb, hml, hown, hts⟩ (mt_X1_requireWord l dC dI cA s.heap.size 0 (by first | omega | (simp only [List.length_append, List.length_cons, List.length_nil, List.length_set, turnL_len]; omega))) (va_cwS 1 hts gX1_turn_X1_requireWord rfl rfl rfl hdX1_requireWord ⟨Nat.le_of_ble_eq_true rfl, Nat.le_of_ble_eq_true rfl⟩) hP hK hD [] (by decide) rfl rfl hl.1 rfl (Nat.le_of_ble_eq_true rfl) dX1_turn_1 (Nat.zero_le _) (Nat.zero_le _) ?_
  refine lv_aload_n hx hb dX1_turn_4 rfl (lv_at hl 0 rfl) ?_
  refine lv_iload_n hx hb dX1_turn_5 rfl (lv_at hl 1 rfl) ?_
  refine g_RVr (As := [.int (nI 0)]) (rest := []) ⟨hx, hb, hml, hown, hts⟩ (mt_X1_rowOf0 l dC dI cA s.heap.size x0 r0 r1 r2 r3 (nI rn)) (cwV 1 hts gX1_turn_X1_rowOf rfl rfl rfl hdX1_rowOf ⟨Nat.le_of_ble_eq_true rfl, Nat.le_of_ble_eq_true rfl⟩) hP hK hD [0] (by decide) rfl (va_recv hK hP (ci := 1) (q0 := 0) rfl rfl) rfl hl.1 rfl (Nat.le_of_ble_eq_true rfl) dX1_turn_6 (Nat.zero_le _) (Nat.zero_le _) ?_
  refine lv_astore_n (lv' := [(2, .ref r0), (0, .ref x0), (1, .int (nI 0))]) hx hb dX1_turn_9 rfl hl (by decide) rfl (fun ls hl => ?_)
  refine lv_aload_n hx hb dX1_turn_10 rfl (lv_at hl 1 rfl) ?_
  refine va_get (D := (dC, dI)) (ci := 1) (v := .ref r3) (C := RX1) (T := TX1) (N := 5) hx hb hts (in_X1_turn_1) hown hK hP 0 rfl rfl 3 (by decide) (hts (.fieldLink RX1 22 "BraidWords" "spare" "LBraidWords$Row;") (List.mem_of_getElem? (i := 1) rfl)) (fun _ h9 => h9) rfl dX1_turn_11 ?_
  refine g_MVv (As := []) (rest := []) ⟨hx, hb, hml, hown, hts⟩ (mt_X0_clear l dC dI cA s.heap.size r3 a3 n3 f3) (cwV 0 hts gX1_turn_X0_clear rfl rfl rfl hdX0_clear ⟨Nat.le_of_ble_eq_true rfl, Nat.le_of_ble_eq_true rfl⟩) hP hK hD hS hA [3, 4] (by decide) rfl (va_recv hK hP (ci := 0) (q0 := 3) rfl rfl) rfl hl.1 rfl (Nat.le_of_ble_eq_true rfl) dX1_turn_14 (Nat.zero_le _) (Nat.zero_le _) (fun u9 => [(x0, .inr (1, [.ref r0, .ref r1, .ref r2, .ref r3, .int (nI rn)])), (r0, .inr (0, [.ref a0, .int (nI L.length)])), (a0, .inl (cA, (100, .inl f))), (r3, .inr (0, [.ref a3, .int (nI (([] : List Int32).length))])), (a3, .inl (cA, (100, .inl f3)))]) (fun _ => rfl) (fun _ => rfl) (fun u H locs hw_1 hP hD hS => ?_)
  have hw_1 : True := hw_1
  have hP : va_P (dC, dI) vwCl [(x0, .inr (1, [.ref r0, .ref r1, .ref r2, .ref r3, .int (nI rn)])), (r0, .inr (0, [.ref a0, .int (nI L.length)])), (a0, .inl (cA, (100, .inl f))), (r3, .inr (0, [.ref a3, .int (nI (([] : List Int32).length))])), (a3, .inl (cA, (100, .inl f3)))] H := hP
  have hD : va_D A [(x0, .inr (1, [.ref r0, .ref r1, .ref r2, .ref r3, .int (nI rn)])), (r0, .inr (0, [.ref a0, .int (nI L.length)])), (a0, .inl (cA, (100, .inl f))), (r3, .inr (0, [.ref a3, .int (nI (([] : List Int32).length))])), (a3, .inl (cA, (100, .inl f3)))] := hD
  refine lv_aload_n hx hb dX1_turn_17 rfl (lv_at hl 1 rfl) ?_
  refine va_get (D := (dC, dI)) (ci := 1) (v := .ref r3) (C := RX1) (T := TX1) (N := 5) hx hb hts (in_X1_turn_1) hown hK hP 0 rfl rfl 3 (by decide) (hts (.fieldLink RX1 22 "BraidWords" "spare" "LBraidWords$Row;") (List.mem_of_getElem? (i := 1) rfl)) (fun _ h9 => h9) rfl dX1_turn_18 ?_
  refine lv_aload_n hx hb dX1_turn_21 rfl (lv_at hl 0 rfl) ?_
  refine g_MVv (As := [.ref r0]) (rest := []) ⟨hx, hb, hml, hown, hts⟩ (mt_X0_addTurnedRound l dC dI cA H.size r3 a3 r0 a0 [] f3 L f RI_nil hR (by first | omega | (simp only [List.length_append, List.length_cons, List.length_nil, List.length_set, turnL_len]; omega))) (cwV 1 hts gX1_turn_X0_addTurnedRound rfl rfl rfl hdX0_addTurnedRound ⟨Nat.le_of_ble_eq_true rfl, Nat.le_of_ble_eq_true rfl⟩) hP hK hD hS hA [3, 4, 1, 2] (by decide) rfl (va_recv hK hP (ci := 0) (q0 := 3) rfl rfl) rfl hl.1 rfl (Nat.le_of_ble_eq_true rfl) dX1_turn_22 (Nat.zero_le _) (Nat.zero_le _) (fun u9 => [(x0, .inr (1, [.ref r0, .ref r1, .ref r2, .ref r3, .int (nI rn)])), (r0, .inr (0, [.ref a0, .int (nI L.length)])), (a0, .inl (cA, (100, .inl f))), (r3, .inr (0, [.ref a3, .int (nI (([] ++ turnL L).length))])), (a3, .inl (cA, (100, .inl u9)))]) (fun _ => rfl) (fun _ => rfl) (fun u H locs hw_3 hP hD hS => ?_)
  obtain ⟨f3_2, rfl⟩ : ∃ z, z = u := ⟨_, rfl⟩
  have hw_3 : RI ([] ++ turnL L) f3_2 := hw_3
  have hP : va_P (dC, dI) vwCl [(x0, .inr (1, [.ref r0, .ref r1, .ref r2, .ref r3, .int (nI rn)])), (r0, .inr (0, [.ref a0, .int (nI L.length)])), (a0, .inl (cA, (100, .inl f))), (r3, .inr (0, [.ref a3, .int (nI (([] ++ turnL L).length))])), (a3, .inl (cA, (100, .inl f3_2)))] H := hP
  have hD : va_D A [(x0, .inr (1, [.ref r0, .ref r1, .ref r2, .ref r3, .int (nI rn)])), (r0, .inr (0, [.ref a0, .int (nI L.length)])), (a0, .inl (cA, (100, .inl f))), (r3, .inr (0, [.ref a3, .int (nI (([] ++ turnL L).length))])), (a3, .inl (cA, (100, .inl f3_2)))] := hD
  refine lv_aload_n hx hb dX1_turn_25 rfl (lv_at hl 0 rfl) ?_
  refine lv_aload_n hx hb dX1_turn_26 rfl (lv_at hl 1 rfl) ?_
  refine va_get (D := (dC, dI)) (ci := 1) (v := .ref r3) (C := RX1) (T := TX1) (N := 5) hx hb hts (in_X1_turn_1) hown hK hP 0 rfl rfl 3 (by decide) (hts (.fieldLink RX1 22 "BraidWords" "spare" "LBraidWords$Row;") (List.mem_of_getElem? (i := 1) rfl)) (fun _ h9 => h9) rfl dX1_turn_27 ?_
  refine g_MVv (As := [.ref r3]) (rest := []) ⟨hx, hb, hml, hown, hts⟩ (mt_X0_copy l dC dI cA H.size r0 a0 r3 a3 (nI L.length) f ([] ++ turnL L) f3_2 hw_3) (cwV 1 hts gX1_turn_X0_copy rfl rfl rfl hdX0_copy ⟨Nat.le_of_ble_eq_true rfl, Nat.le_of_ble_eq_true rfl⟩) hP hK hD hS hA [1, 2, 3, 4] (by decide) rfl (va_recv hK hP (ci := 0) (q0 := 1) rfl rfl) rfl hl.1 rfl (Nat.le_of_ble_eq_true rfl) dX1_turn_30 (Nat.zero_le _) (Nat.zero_le _) (fun u9 => [(x0, .inr (1, [.ref r0, .ref r1, .ref r2, .ref r3, .int (nI rn)])), (r0, .inr (0, [.ref a0, .int (nI ([] ++ turnL L).length)])), (a0, .inl (cA, (100, .inl u9))), (r3, .inr (0, [.ref a3, .int (nI ([] ++ turnL L).length)])), (a3, .inl (cA, (100, .inl f3_2)))]) (fun _ => rfl) (fun _ => rfl) (fun u H locs hw_5 hP hD hS => ?_)
  obtain ⟨f3_4, rfl⟩ : ∃ z, z = u := ⟨_, rfl⟩
  have hw_5 : RI ([] ++ turnL L) f3_4 := hw_5
  have hP : va_P (dC, dI) vwCl [(x0, .inr (1, [.ref r0, .ref r1, .ref r2, .ref r3, .int (nI rn)])), (r0, .inr (0, [.ref a0, .int (nI ([] ++ turnL L).length)])), (a0, .inl (cA, (100, .inl f3_4))), (r3, .inr (0, [.ref a3, .int (nI ([] ++ turnL L).length)])), (a3, .inl (cA, (100, .inl f3_2)))] H := hP
  have hD : va_D A [(x0, .inr (1, [.ref r0, .ref r1, .ref r2, .ref r3, .int (nI rn)])), (r0, .inr (0, [.ref a0, .int (nI ([] ++ turnL L).length)])), (a0, .inl (cA, (100, .inl f3_4))), (r3, .inr (0, [.ref a3, .int (nI ([] ++ turnL L).length)])), (a3, .inl (cA, (100, .inl f3_2)))] := hD
  refine lv_aload_n hx hb dX1_turn_33 rfl (lv_at hl 0 rfl) ?_
  refine g_RVi (As := []) (rest := []) ⟨hx, hb, hml, hown, hts⟩ (mt_X0_size l dC dI cA H.size r0 a0 (nI ([] ++ turnL L).length) f3_4) (cwV 0 hts gX1_turn_X0_size rfl rfl rfl hdX0_size ⟨Nat.le_of_ble_eq_true rfl, Nat.le_of_ble_eq_true rfl⟩) hP hK hD [1, 2] (by decide) rfl (va_recv hK hP (ci := 0) (q0 := 1) rfl rfl) rfl hl.1 rfl (Nat.le_of_ble_eq_true rfl) dX1_turn_34 (Nat.zero_le _) (Nat.zero_le _) ?_
  exact g_endMi hx hb hr hlocks hP hS dX1_turn_37 (f3_4, f3_2) rfl rfl hw_5

abbrev mt_X1_join0_rm : Room := { frames := 2, cells := 0, slots := 0, locals := 44 }
set_option maxHeartbeats 4000000 in
set_option maxRecDepth 100000 in
/-- join -/
theorem mt_X1_join0 (l : Launch) (dC : Nat → ClassId) (dI : Nat → Nat → Nat) (cA : ClassId) (sz : Nat) (x0 : Nat) (r0 : Nat) (r1 : Nat) (r2 : Nat) (r3 : Nat) (rn : Nat) (a0 : Nat) (a1 : Nat) (L : List Int32) (f : Nat → Int32) (M : List Int32) (f9 : Nat → Int32) (hR : RI L f) (hR9 : RI M f9) (hk : L.length + M.length ≤ 30) : Met l yX1_join wsX1_join mt_X1_join0_rm (va_Pc [.ref x0, .int (nI 0)] (gB (dC, dI) [(cA, .int)] [(x0, .inr (1, [.ref r0, .ref r1, .ref r2, .ref r3, .int (nI rn)])), (r0, .inr (0, [.ref a0, .int (nI L.length)])), (a0, .inl (cA, (100, .inl f))), (r1, .inr (0, [.ref a1, .int (nI M.length)])), (a1, .inl (cA, (100, .inl f9)))] sz)) (gM (dC, dI) (some (.int (nI (L ++ M).length))) (fun u : (Nat → Int32) => RI (L ++ M) u) (fun u : (Nat → Int32) => [(x0, .inr (1, [.ref r0, .ref r1, .ref r2, .ref r3, .int (nI rn)])), (r0, .inr (0, [.ref a0, .int (nI ((L ++ M).length))])), (a0, .inl (cA, (100, .inl u))), (r1, .inr (0, [.ref a1, .int (nI M.length)])), (a1, .inl (cA, (100, .inl f9)))]) (va_A [(x0, .inr (1, [.ref r0, .ref r1, .ref r2, .ref r3, .int (nI rn)])), (r0, .inr (0, [.ref a0, .int (nI L.length)])), (a0, .inl (cA, (100, .inl f))), (r1, .inr (0, [.ref a1, .int (nI M.length)])), (a1, .inl (cA, (100, .inl f9)))] sz)) 0 0 (va_A [(x0, .inr (1, [.ref r0, .ref r1, .ref r2, .ref r3, .int (nI rn)])), (r0, .inr (0, [.ref a0, .int (nI L.length)])), (a0, .inl (cA, (100, .inl f))), (r1, .inr (0, [.ref a1, .int (nI M.length)])), (a1, .inl (cA, (100, .inl f9)))] sz) := by
  refine g_ofM (cc := cX1_join) (maxL := 4) (ret := (some .int)) (by decide) rfl (Nat.le_of_ble_eq_true rfl) (fun p e s m below meth c ls hx hb hr hml hts hown hlocks hP hK hl hin A hA hD hS => ?_)
  have hl : lv_has ls 4 [(0, .ref x0), (1, .int (nI 0))] := hl
  have hL := hR.1
  have hM := hR9.1
  refine lv_iload_n hx hb dX1_join_0 rfl (lv_at hl 1 rfl) ?_
  refine g_RSv (As := [.int (nI 0)]) (rest := []) ⟨hx, hb, hml, hown, hts⟩ (mt_X1_requireWord l dC dI cA s.heap.size 0 (by first | omega | (simp only [List.length_append, List.length_cons, List.length_nil, List.length_set, turnL_len]; omega))) (va_cwS 1 hts gX1_join_X1_requireWord rfl rfl rfl hdX1_requireWord ⟨Nat.le_of_ble_eq_true rfl, Nat.le_of_ble_eq_true rfl⟩) hP hK hD [] (by decide) rfl rfl hl.1 rfl (Nat.le_of_ble_eq_true rfl) dX1_join_1 (Nat.zero_le _) (Nat.zero_le _) ?_
  refine lv_aload_n hx hb dX1_join_4 rfl (lv_at hl 0 rfl) ?_
  refine lv_iload_n hx hb dX1_join_5 rfl (lv_at hl 1 rfl) ?_
  refine g_RVr (As := [.int (nI 0)]) (rest := []) ⟨hx, hb, hml, hown, hts⟩ (mt_X1_rowOf0 l dC dI cA s.heap.size x0 r0 r1 r2 r3 (nI rn)) (cwV 1 hts gX1_join_X1_rowOf rfl rfl rfl hdX1_rowOf ⟨Nat.le_of_ble_eq_true rfl, Nat.le_of_ble_eq_true rfl⟩) hP hK hD [0] (by decide) rfl (va_recv hK hP (ci := 1) (q0 := 0) rfl rfl) rfl hl.1 rfl (Nat.le_of_ble_eq_true rfl) dX1_join_6 (Nat.zero_le _) (Nat.zero_le _) ?_
  refine lv_astore_n (lv' := [(2, .ref r0), (0, .ref x0), (1, .int (nI 0))]) hx hb dX1_join_9 rfl hl (by decide) rfl (fun ls hl => ?_)
  refine lv_aload_n hx hb dX1_join_10 rfl (lv_at hl 1 rfl) ?_
  refine lv_iconst (v := 1) hx hb dX1_join_11 (by decide) ?_
  refine lv_iload_n hx hb dX1_join_12 rfl (lv_at hl 2 rfl) ?_
  refine lv_isub hx hb dX1_join_13 ?_
  rw [show (1 : Int32) - nI 0 = nI 1 from by decide]
  refine g_RVr (As := [.int (nI 1)]) (rest := []) ⟨hx, hb, hml, hown, hts⟩ (mt_X1_rowOf1 l dC dI cA s.heap.size x0 r0 r1 r2 r3 (nI rn)) (cwV 1 hts gX1_join_X1_rowOf rfl rfl rfl hdX1_rowOf ⟨Nat.le_of_ble_eq_true rfl, Nat.le_of_ble_eq_true rfl⟩) hP hK hD [0] (by decide) rfl (va_recv hK hP (ci := 1) (q0 := 0) rfl rfl) rfl hl.1 rfl (Nat.le_of_ble_eq_true rfl) dX1_join_14 (Nat.zero_le _) (Nat.zero_le _) ?_
  refine lv_astore_n (lv' := [(3, .ref r1), (2, .ref r0), (0, .ref x0), (1, .int (nI 0))]) hx hb dX1_join_17 rfl hl (by decide) rfl (fun ls hl => ?_)
  refine lv_aload_n hx hb dX1_join_18 rfl (lv_at hl 1 rfl) ?_
  refine lv_aload_n hx hb dX1_join_19 rfl (lv_at hl 0 rfl) ?_
  refine g_RVi (As := []) (rest := [.ref r0]) ⟨hx, hb, hml, hown, hts⟩ (mt_X0_size l dC dI cA s.heap.size r1 a1 (nI M.length) f9) (cwV 0 hts gX1_join_X0_size rfl rfl rfl hdX0_size ⟨Nat.le_of_ble_eq_true rfl, Nat.le_of_ble_eq_true rfl⟩) hP hK hD [3, 4] (by decide) rfl (va_recv hK hP (ci := 0) (q0 := 3) rfl rfl) rfl hl.1 rfl (Nat.le_of_ble_eq_true rfl) dX1_join_20 (Nat.zero_le _) (Nat.zero_le _) ?_
  refine g_RSv (As := [.ref r0, .int (nI M.length)]) (rest := []) ⟨hx, hb, hml, hown, hts⟩ (mt_X1_requireRoom l dC dI cA s.heap.size r0 a0 L f (nI M.length) (room_ok L.length M.length (by omega))) (va_cwS 2 hts gX1_join_X1_requireRoom rfl rfl rfl hdX1_requireRoom ⟨Nat.le_of_ble_eq_true rfl, Nat.le_of_ble_eq_true rfl⟩) hP hK hD [1, 2] (by decide) rfl rfl hl.1 rfl (Nat.le_of_ble_eq_true rfl) dX1_join_23 (Nat.zero_le _) (Nat.zero_le _) ?_
  refine lv_aload_n hx hb dX1_join_26 rfl (lv_at hl 1 rfl) ?_
  refine lv_aload_n hx hb dX1_join_27 rfl (lv_at hl 0 rfl) ?_
  refine g_MVv (As := [.ref r1]) (rest := []) ⟨hx, hb, hml, hown, hts⟩ (mt_X0_addAll l dC dI cA s.heap.size r0 a0 r1 a1 L f M f9 hR hR9 (by first | omega | (simp only [List.length_append, List.length_cons, List.length_nil, List.length_set, turnL_len]; omega))) (cwV 1 hts gX1_join_X0_addAll rfl rfl rfl hdX0_addAll ⟨Nat.le_of_ble_eq_true rfl, Nat.le_of_ble_eq_true rfl⟩) hP hK hD hS hA [1, 2, 3, 4] (by decide) rfl (va_recv hK hP (ci := 0) (q0 := 1) rfl rfl) rfl hl.1 rfl (Nat.le_of_ble_eq_true rfl) dX1_join_28 (Nat.zero_le _) (Nat.zero_le _) (fun u9 => [(x0, .inr (1, [.ref r0, .ref r1, .ref r2, .ref r3, .int (nI rn)])), (r0, .inr (0, [.ref a0, .int (nI ((L ++ M).length))])), (a0, .inl (cA, (100, .inl u9))), (r1, .inr (0, [.ref a1, .int (nI M.length)])), (a1, .inl (cA, (100, .inl f9)))]) (fun _ => rfl) (fun _ => rfl) (fun u H locs hw_2 hP hD hS => ?_)
  obtain ⟨f3_1, rfl⟩ : ∃ z, z = u := ⟨_, rfl⟩
  have hw_2 : RI (L ++ M) f3_1 := hw_2
  have hP : va_P (dC, dI) vwCl [(x0, .inr (1, [.ref r0, .ref r1, .ref r2, .ref r3, .int (nI rn)])), (r0, .inr (0, [.ref a0, .int (nI ((L ++ M).length))])), (a0, .inl (cA, (100, .inl f3_1))), (r1, .inr (0, [.ref a1, .int (nI M.length)])), (a1, .inl (cA, (100, .inl f9)))] H := hP
  have hD : va_D A [(x0, .inr (1, [.ref r0, .ref r1, .ref r2, .ref r3, .int (nI rn)])), (r0, .inr (0, [.ref a0, .int (nI ((L ++ M).length))])), (a0, .inl (cA, (100, .inl f3_1))), (r1, .inr (0, [.ref a1, .int (nI M.length)])), (a1, .inl (cA, (100, .inl f9)))] := hD
  refine lv_aload_n hx hb dX1_join_31 rfl (lv_at hl 1 rfl) ?_
  refine g_RVi (As := []) (rest := []) ⟨hx, hb, hml, hown, hts⟩ (mt_X0_size l dC dI cA H.size r0 a0 (nI ((L ++ M).length)) f3_1) (cwV 0 hts gX1_join_X0_size rfl rfl rfl hdX0_size ⟨Nat.le_of_ble_eq_true rfl, Nat.le_of_ble_eq_true rfl⟩) hP hK hD [1, 2] (by decide) rfl (va_recv hK hP (ci := 0) (q0 := 1) rfl rfl) rfl hl.1 rfl (Nat.le_of_ble_eq_true rfl) dX1_join_32 (Nat.zero_le _) (Nat.zero_le _) ?_
  exact g_endMi hx hb hr hlocks hP hS dX1_join_35 f3_1 rfl rfl hw_2

abbrev mt_X1_swap0_rm : Room := { frames := 2, cells := 0, slots := 0, locals := 41 }
set_option maxHeartbeats 4000000 in
set_option maxRecDepth 100000 in
/-- swap -/
theorem mt_X1_swap0 (l : Launch) (dC : Nat → ClassId) (dI : Nat → Nat → Nat) (cA : ClassId) (sz : Nat) (x0 : Nat) (r0 : Nat) (r1 : Nat) (r2 : Nat) (r3 : Nat) (rn : Nat) (a0 : Nat) (L : List Int32) (f : Nat → Int32) (k : Nat) (hR : RI L f) (hk : k + 1 < L.length) (hap : ¬ abI (abI (atL L k) - abI (atL L (k + 1))) < 2) : Met l yX1_swap wsX1_swap mt_X1_swap0_rm (va_Pc [.ref x0, .int (nI 0), .int (nI k)] (gB (dC, dI) [(cA, .int)] [(x0, .inr (1, [.ref r0, .ref r1, .ref r2, .ref r3, .int (nI rn)])), (r0, .inr (0, [.ref a0, .int (nI L.length)])), (a0, .inl (cA, (100, .inl f)))] sz)) (gM (dC, dI) (some (.int (atL L (k + 1)))) (fun u : (Nat → Int32) => RI ((L.set k (atL L (k + 1))).set (k + 1) (atL L k)) u) (fun u : (Nat → Int32) => [(x0, .inr (1, [.ref r0, .ref r1, .ref r2, .ref r3, .int (nI rn)])), (r0, .inr (0, [.ref a0, .int (nI (((L.set k (atL L (k + 1))).set (k + 1) (atL L k)).length))])), (a0, .inl (cA, (100, .inl u)))]) (va_A [(x0, .inr (1, [.ref r0, .ref r1, .ref r2, .ref r3, .int (nI rn)])), (r0, .inr (0, [.ref a0, .int (nI L.length)])), (a0, .inl (cA, (100, .inl f)))] sz)) 0 0 (va_A [(x0, .inr (1, [.ref r0, .ref r1, .ref r2, .ref r3, .int (nI rn)])), (r0, .inr (0, [.ref a0, .int (nI L.length)])), (a0, .inl (cA, (100, .inl f)))] sz) := by
  refine g_ofM (cc := cX1_swap) (maxL := 6) (ret := (some .int)) (by decide) rfl (Nat.le_of_ble_eq_true rfl) (fun p e s m below meth c ls hx hb hr hml hts hown hlocks hP hK hl hin A hA hD hS => ?_)
  have hl : lv_has ls 6 [(0, .ref x0), (1, .int (nI 0)), (2, .int (nI k))] := hl
  have hL := hR.1
  refine lv_iload_n hx hb dX1_swap_0 rfl (lv_at hl 1 rfl) ?_
  refine g_RSv (As := [.int (nI 0)]) (rest := []) ⟨hx, hb, hml, hown, hts⟩ (mt_X1_requireWord l dC dI cA s.heap.size 0 (by first | omega | (simp only [List.length_append, List.length_cons, List.length_nil, List.length_set, turnL_len]; omega))) (va_cwS 1 hts gX1_swap_X1_requireWord rfl rfl rfl hdX1_requireWord ⟨Nat.le_of_ble_eq_true rfl, Nat.le_of_ble_eq_true rfl⟩) hP hK hD [] (by decide) rfl rfl hl.1 rfl (Nat.le_of_ble_eq_true rfl) dX1_swap_1 (Nat.zero_le _) (Nat.zero_le _) ?_
  refine lv_aload_n hx hb dX1_swap_4 rfl (lv_at hl 0 rfl) ?_
  refine lv_iload_n hx hb dX1_swap_5 rfl (lv_at hl 1 rfl) ?_
  refine g_RVr (As := [.int (nI 0)]) (rest := []) ⟨hx, hb, hml, hown, hts⟩ (mt_X1_rowOf0 l dC dI cA s.heap.size x0 r0 r1 r2 r3 (nI rn)) (cwV 1 hts gX1_swap_X1_rowOf rfl rfl rfl hdX1_rowOf ⟨Nat.le_of_ble_eq_true rfl, Nat.le_of_ble_eq_true rfl⟩) hP hK hD [0] (by decide) rfl (va_recv hK hP (ci := 1) (q0 := 0) rfl rfl) rfl hl.1 rfl (Nat.le_of_ble_eq_true rfl) dX1_swap_6 (Nat.zero_le _) (Nat.zero_le _) ?_
  refine lv_astore_n (lv' := [(3, .ref r0), (0, .ref x0), (1, .int (nI 0)), (2, .int (nI k))]) hx hb dX1_swap_9 rfl hl (by decide) rfl (fun ls hl => ?_)
  refine lv_iload_n hx hb dX1_swap_10 rfl (lv_at hl 3 rfl) ?_
  refine lv_aload_n hx hb dX1_swap_11 rfl (lv_at hl 0 rfl) ?_
  refine g_RVi (As := []) (rest := [.int (nI k)]) ⟨hx, hb, hml, hown, hts⟩ (mt_X0_size l dC dI cA s.heap.size r0 a0 (nI L.length) f) (cwV 0 hts gX1_swap_X0_size rfl rfl rfl hdX0_size ⟨Nat.le_of_ble_eq_true rfl, Nat.le_of_ble_eq_true rfl⟩) hP hK hD [1, 2] (by decide) rfl (va_recv hK hP (ci := 0) (q0 := 1) rfl rfl) rfl hl.1 rfl (Nat.le_of_ble_eq_true rfl) dX1_swap_12 (Nat.zero_le _) (Nat.zero_le _) ?_
  refine lv_iconst (v := 1) hx hb dX1_swap_15 (by decide) ?_
  refine lv_isub hx hb dX1_swap_16 ?_
  rw [plI_sub L.length]
  refine g_RSv (As := [.int (nI k), .int (plI L.length)]) (rest := []) ⟨hx, hb, hml, hown, hts⟩ (mt_X1_requirePlace l dC dI cA s.heap.size (nI k) (plI L.length) (nI_pos (by omega)) (lt_plI hk (by omega))) (va_cwS 2 hts gX1_swap_X1_requirePlace rfl rfl rfl hdX1_requirePlace ⟨Nat.le_of_ble_eq_true rfl, Nat.le_of_ble_eq_true rfl⟩) hP hK hD [] (by decide) rfl rfl hl.1 rfl (Nat.le_of_ble_eq_true rfl) dX1_swap_17 (Nat.zero_le _) (Nat.zero_le _) ?_
  refine lv_aload_n hx hb dX1_swap_20 rfl (lv_at hl 0 rfl) ?_
  refine lv_iload_n hx hb dX1_swap_21 rfl (lv_at hl 3 rfl) ?_
  refine g_RVi (As := [.int (nI k)]) (rest := []) ⟨hx, hb, hml, hown, hts⟩ (mt_X0_at l dC dI cA s.heap.size r0 a0 L f k hR (by first | omega | (simp only [List.length_append, List.length_cons, List.length_nil, List.length_set, turnL_len]; omega))) (cwV 1 hts gX1_swap_X0_at rfl rfl rfl hdX0_at ⟨Nat.le_of_ble_eq_true rfl, Nat.le_of_ble_eq_true rfl⟩) hP hK hD [1, 2] (by decide) rfl (va_recv hK hP (ci := 0) (q0 := 1) rfl rfl) rfl hl.1 rfl (Nat.le_of_ble_eq_true rfl) dX1_swap_22 (Nat.zero_le _) (Nat.zero_le _) ?_
  refine lv_istore (lv' := [(4, .int (atL L k)), (3, .ref r0), (0, .ref x0), (1, .int (nI 0)), (2, .int (nI k))]) hx hb dX1_swap_25 hl (by decide) rfl (fun ls hl => ?_)
  refine lv_aload_n hx hb dX1_swap_27 rfl (lv_at hl 1 rfl) ?_
  refine lv_iload_n hx hb dX1_swap_28 rfl (lv_at hl 4 rfl) ?_
  refine lv_iconst (v := 1) hx hb dX1_swap_29 (by decide) ?_
  refine lv_iadd hx hb dX1_swap_30 ?_
  rw [show (nI k) + 1 = nI (k + 1) from nI_add k 1]
  refine g_RVi (As := [.int (nI (k + 1))]) (rest := []) ⟨hx, hb, hml, hown, hts⟩ (mt_X0_at l dC dI cA s.heap.size r0 a0 L f (k + 1) hR (by first | omega | (simp only [List.length_append, List.length_cons, List.length_nil, List.length_set, turnL_len]; omega))) (cwV 1 hts gX1_swap_X0_at rfl rfl rfl hdX0_at ⟨Nat.le_of_ble_eq_true rfl, Nat.le_of_ble_eq_true rfl⟩) hP hK hD [1, 2] (by decide) rfl (va_recv hK hP (ci := 0) (q0 := 1) rfl rfl) rfl hl.1 rfl (Nat.le_of_ble_eq_true rfl) dX1_swap_31 (Nat.zero_le _) (Nat.zero_le _) ?_
  refine lv_istore (lv' := [(5, .int (atL L (k + 1))), (4, .int (atL L k)), (3, .ref r0), (0, .ref x0), (1, .int (nI 0)), (2, .int (nI k))]) hx hb dX1_swap_34 hl (by decide) rfl (fun ls hl => ?_)
  refine lv_iload hx hb dX1_swap_36 (lv_at hl 1 rfl) ?_
  refine lv_iload hx hb dX1_swap_38 (lv_at hl 0 rfl) ?_
  refine g_RSi (As := [.int (atL L k), .int (atL L (k + 1))]) (rest := []) ⟨hx, hb, hml, hown, hts⟩ (mt_X1_heightsApart l dC dI cA s.heap.size (atL L k) (atL L (k + 1))) (va_cwS 2 hts gX1_swap_X1_heightsApart rfl rfl rfl hdX1_heightsApart ⟨Nat.le_of_ble_eq_true rfl, Nat.le_of_ble_eq_true rfl⟩) hP hK hD [] (by decide) rfl rfl hl.1 rfl (Nat.le_of_ble_eq_true rfl) dX1_swap_40 (Nat.zero_le _) (Nat.zero_le _) ?_
  refine lv_iconst (v := 2) hx hb dX1_swap_43 (by decide) ?_
  refine lv_icmp_ge (tgt := 57) hx hb dX1_swap_44 (by decide) (fun c44 => ?_) (fun c44 => ?_)
  · refine lv_aload_n hx hb dX1_swap_57 rfl (lv_at hl 2 rfl) ?_
    refine lv_iload_n hx hb dX1_swap_58 rfl (lv_at hl 5 rfl) ?_
    refine lv_iload hx hb dX1_swap_59 (lv_at hl 0 rfl) ?_
    refine g_MVv (As := [.int (nI k), .int (atL L (k + 1))]) (rest := []) ⟨hx, hb, hml, hown, hts⟩ (mt_X0_set l dC dI cA s.heap.size r0 a0 L f k (atL L (k + 1)) hR (by first | omega | (simp only [List.length_append, List.length_cons, List.length_nil, List.length_set, turnL_len]; omega))) (cwV 2 hts gX1_swap_X0_set rfl rfl rfl hdX0_set ⟨Nat.le_of_ble_eq_true rfl, Nat.le_of_ble_eq_true rfl⟩) hP hK hD hS hA [1, 2] (by decide) rfl (va_recv hK hP (ci := 0) (q0 := 1) rfl rfl) rfl hl.1 rfl (Nat.le_of_ble_eq_true rfl) dX1_swap_61 (Nat.zero_le _) (Nat.zero_le _) (fun u9 => [(x0, .inr (1, [.ref r0, .ref r1, .ref r2, .ref r3, .int (nI rn)])), (r0, .inr (0, [.ref a0, .int (nI ((L.set k (atL L (k + 1))).length))])), (a0, .inl (cA, (100, .inl u9)))]) (fun _ => rfl) (fun _ => rfl) (fun u H locs hw_2 hP hD hS => ?_)
    obtain ⟨f1_1, rfl⟩ : ∃ z, z = u := ⟨_, rfl⟩
    have hw_2 : RI (L.set k (atL L (k + 1))) f1_1 := hw_2
    have hP : va_P (dC, dI) vwCl [(x0, .inr (1, [.ref r0, .ref r1, .ref r2, .ref r3, .int (nI rn)])), (r0, .inr (0, [.ref a0, .int (nI ((L.set k (atL L (k + 1))).length))])), (a0, .inl (cA, (100, .inl f1_1)))] H := hP
    have hD : va_D A [(x0, .inr (1, [.ref r0, .ref r1, .ref r2, .ref r3, .int (nI rn)])), (r0, .inr (0, [.ref a0, .int (nI ((L.set k (atL L (k + 1))).length))])), (a0, .inl (cA, (100, .inl f1_1)))] := hD
    refine lv_aload_n hx hb dX1_swap_64 rfl (lv_at hl 2 rfl) ?_
    refine lv_iload_n hx hb dX1_swap_65 rfl (lv_at hl 5 rfl) ?_
    refine lv_iconst (v := 1) hx hb dX1_swap_66 (by decide) ?_
    refine lv_iadd hx hb dX1_swap_67 ?_
    rw [show (nI k) + 1 = nI (k + 1) from nI_add k 1]
    refine lv_iload hx hb dX1_swap_68 (lv_at hl 1 rfl) ?_
    refine g_MVv (As := [.int (nI (k + 1)), .int (atL L k)]) (rest := []) ⟨hx, hb, hml, hown, hts⟩ (mt_X0_set l dC dI cA H.size r0 a0 (L.set k (atL L (k + 1))) f1_1 (k + 1) (atL L k) hw_2 (by first | omega | (simp only [List.length_append, List.length_cons, List.length_nil, List.length_set, turnL_len]; omega))) (cwV 2 hts gX1_swap_X0_set rfl rfl rfl hdX0_set ⟨Nat.le_of_ble_eq_true rfl, Nat.le_of_ble_eq_true rfl⟩) hP hK hD hS hA [1, 2] (by decide) rfl (va_recv hK hP (ci := 0) (q0 := 1) rfl rfl) rfl hl.1 rfl (Nat.le_of_ble_eq_true rfl) dX1_swap_70 (Nat.zero_le _) (Nat.zero_le _) (fun u9 => [(x0, .inr (1, [.ref r0, .ref r1, .ref r2, .ref r3, .int (nI rn)])), (r0, .inr (0, [.ref a0, .int (nI (((L.set k (atL L (k + 1))).set (k + 1) (atL L k)).length))])), (a0, .inl (cA, (100, .inl u9)))]) (fun _ => rfl) (fun _ => rfl) (fun u H locs hw_4 hP hD hS => ?_)
    obtain ⟨f1_3, rfl⟩ : ∃ z, z = u := ⟨_, rfl⟩
    have hw_4 : RI ((L.set k (atL L (k + 1))).set (k + 1) (atL L k)) f1_3 := hw_4
    have hP : va_P (dC, dI) vwCl [(x0, .inr (1, [.ref r0, .ref r1, .ref r2, .ref r3, .int (nI rn)])), (r0, .inr (0, [.ref a0, .int (nI (((L.set k (atL L (k + 1))).set (k + 1) (atL L k)).length))])), (a0, .inl (cA, (100, .inl f1_3)))] H := hP
    have hD : va_D A [(x0, .inr (1, [.ref r0, .ref r1, .ref r2, .ref r3, .int (nI rn)])), (r0, .inr (0, [.ref a0, .int (nI (((L.set k (atL L (k + 1))).set (k + 1) (atL L k)).length))])), (a0, .inl (cA, (100, .inl f1_3)))] := hD
    refine lv_iload hx hb dX1_swap_73 (lv_at hl 0 rfl) ?_
    exact g_endMi hx hb hr hlocks hP hS dX1_swap_75 f1_3 rfl rfl hw_4
  · exact absurd (Int32.not_le.mp c44) hap

abbrev mt_X1_about0_rm : Room := { frames := 2, cells := 0, slots := 0, locals := 41 }
set_option maxHeartbeats 4000000 in
set_option maxRecDepth 100000 in
/-- about -/
theorem mt_X1_about0 (l : Launch) (dC : Nat → ClassId) (dI : Nat → Nat → Nat) (cA : ClassId) (sz : Nat) (x0 : Nat) (r0 : Nat) (r1 : Nat) (r2 : Nat) (r3 : Nat) (rn : Nat) (a0 : Nat) (L : List Int32) (f : Nat → Int32) (k : Nat) (hR : RI L f) (hk : k + 2 < L.length) (ha1 : atL L (k + 2) = atL L k) (ha2 : sgI (atL L (k + 1)) = sgI (atL L k)) (ha3 : abI (abI (atL L (k + 1)) - abI (atL L k)) = 1) : Met l yX1_about wsX1_about mt_X1_about0_rm (va_Pc [.ref x0, .int (nI 0), .int (nI k)] (gB (dC, dI) [(cA, .int)] [(x0, .inr (1, [.ref r0, .ref r1, .ref r2, .ref r3, .int (nI rn)])), (r0, .inr (0, [.ref a0, .int (nI L.length)])), (a0, .inl (cA, (100, .inl f)))] sz)) (gM (dC, dI) (some (.int (atL L (k + 1)))) (fun u : (Nat → Int32) => RI (((L.set k (atL L (k + 1))).set (k + 1) (atL L k)).set (k + 2) (atL L (k + 1))) u) (fun u : (Nat → Int32) => [(x0, .inr (1, [.ref r0, .ref r1, .ref r2, .ref r3, .int (nI rn)])), (r0, .inr (0, [.ref a0, .int (nI ((((L.set k (atL L (k + 1))).set (k + 1) (atL L k)).set (k + 2) (atL L (k + 1))).length))])), (a0, .inl (cA, (100, .inl u)))]) (va_A [(x0, .inr (1, [.ref r0, .ref r1, .ref r2, .ref r3, .int (nI rn)])), (r0, .inr (0, [.ref a0, .int (nI L.length)])), (a0, .inl (cA, (100, .inl f)))] sz)) 0 0 (va_A [(x0, .inr (1, [.ref r0, .ref r1, .ref r2, .ref r3, .int (nI rn)])), (r0, .inr (0, [.ref a0, .int (nI L.length)])), (a0, .inl (cA, (100, .inl f)))] sz) := by
  refine g_ofM (cc := cX1_about) (maxL := 6) (ret := (some .int)) (by decide) rfl (Nat.le_of_ble_eq_true rfl) (fun p e s m below meth c ls hx hb hr hml hts hown hlocks hP hK hl hin A hA hD hS => ?_)
  have hl : lv_has ls 6 [(0, .ref x0), (1, .int (nI 0)), (2, .int (nI k))] := hl
  have hL := hR.1
  refine lv_iload_n hx hb dX1_about_0 rfl (lv_at hl 1 rfl) ?_
  refine g_RSv (As := [.int (nI 0)]) (rest := []) ⟨hx, hb, hml, hown, hts⟩ (mt_X1_requireWord l dC dI cA s.heap.size 0 (by first | omega | (simp only [List.length_append, List.length_cons, List.length_nil, List.length_set, turnL_len]; omega))) (va_cwS 1 hts gX1_about_X1_requireWord rfl rfl rfl hdX1_requireWord ⟨Nat.le_of_ble_eq_true rfl, Nat.le_of_ble_eq_true rfl⟩) hP hK hD [] (by decide) rfl rfl hl.1 rfl (Nat.le_of_ble_eq_true rfl) dX1_about_1 (Nat.zero_le _) (Nat.zero_le _) ?_
  refine lv_aload_n hx hb dX1_about_4 rfl (lv_at hl 0 rfl) ?_
  refine lv_iload_n hx hb dX1_about_5 rfl (lv_at hl 1 rfl) ?_
  refine g_RVr (As := [.int (nI 0)]) (rest := []) ⟨hx, hb, hml, hown, hts⟩ (mt_X1_rowOf0 l dC dI cA s.heap.size x0 r0 r1 r2 r3 (nI rn)) (cwV 1 hts gX1_about_X1_rowOf rfl rfl rfl hdX1_rowOf ⟨Nat.le_of_ble_eq_true rfl, Nat.le_of_ble_eq_true rfl⟩) hP hK hD [0] (by decide) rfl (va_recv hK hP (ci := 1) (q0 := 0) rfl rfl) rfl hl.1 rfl (Nat.le_of_ble_eq_true rfl) dX1_about_6 (Nat.zero_le _) (Nat.zero_le _) ?_
  refine lv_astore_n (lv' := [(3, .ref r0), (0, .ref x0), (1, .int (nI 0)), (2, .int (nI k))]) hx hb dX1_about_9 rfl hl (by decide) rfl (fun ls hl => ?_)
  refine lv_iload_n hx hb dX1_about_10 rfl (lv_at hl 3 rfl) ?_
  refine lv_aload_n hx hb dX1_about_11 rfl (lv_at hl 0 rfl) ?_
  refine g_RVi (As := []) (rest := [.int (nI k)]) ⟨hx, hb, hml, hown, hts⟩ (mt_X0_size l dC dI cA s.heap.size r0 a0 (nI L.length) f) (cwV 0 hts gX1_about_X0_size rfl rfl rfl hdX0_size ⟨Nat.le_of_ble_eq_true rfl, Nat.le_of_ble_eq_true rfl⟩) hP hK hD [1, 2] (by decide) rfl (va_recv hK hP (ci := 0) (q0 := 1) rfl rfl) rfl hl.1 rfl (Nat.le_of_ble_eq_true rfl) dX1_about_12 (Nat.zero_le _) (Nat.zero_le _) ?_
  refine lv_iconst (v := 2) hx hb dX1_about_15 (by decide) ?_
  refine lv_isub hx hb dX1_about_16 ?_
  rw [sub2_nI (show 2 ≤ L.length by omega)]
  refine g_RSv (As := [.int (nI k), .int (nI (L.length - 2))]) (rest := []) ⟨hx, hb, hml, hown, hts⟩ (mt_X1_requirePlace l dC dI cA s.heap.size (nI k) (nI (L.length - 2)) (nI_pos (by omega)) (nI_lt (by omega) (by omega))) (va_cwS 2 hts gX1_about_X1_requirePlace rfl rfl rfl hdX1_requirePlace ⟨Nat.le_of_ble_eq_true rfl, Nat.le_of_ble_eq_true rfl⟩) hP hK hD [] (by decide) rfl rfl hl.1 rfl (Nat.le_of_ble_eq_true rfl) dX1_about_17 (Nat.zero_le _) (Nat.zero_le _) ?_
  refine lv_aload_n hx hb dX1_about_20 rfl (lv_at hl 0 rfl) ?_
  refine lv_iload_n hx hb dX1_about_21 rfl (lv_at hl 3 rfl) ?_
  refine g_RVi (As := [.int (nI k)]) (rest := []) ⟨hx, hb, hml, hown, hts⟩ (mt_X0_at l dC dI cA s.heap.size r0 a0 L f k hR (by first | omega | (simp only [List.length_append, List.length_cons, List.length_nil, List.length_set, turnL_len]; omega))) (cwV 1 hts gX1_about_X0_at rfl rfl rfl hdX0_at ⟨Nat.le_of_ble_eq_true rfl, Nat.le_of_ble_eq_true rfl⟩) hP hK hD [1, 2] (by decide) rfl (va_recv hK hP (ci := 0) (q0 := 1) rfl rfl) rfl hl.1 rfl (Nat.le_of_ble_eq_true rfl) dX1_about_22 (Nat.zero_le _) (Nat.zero_le _) ?_
  refine lv_istore (lv' := [(4, .int (atL L k)), (3, .ref r0), (0, .ref x0), (1, .int (nI 0)), (2, .int (nI k))]) hx hb dX1_about_25 hl (by decide) rfl (fun ls hl => ?_)
  refine lv_aload_n hx hb dX1_about_27 rfl (lv_at hl 1 rfl) ?_
  refine lv_iload_n hx hb dX1_about_28 rfl (lv_at hl 4 rfl) ?_
  refine lv_iconst (v := 1) hx hb dX1_about_29 (by decide) ?_
  refine lv_iadd hx hb dX1_about_30 ?_
  rw [show (nI k) + 1 = nI (k + 1) from nI_add k 1]
  refine g_RVi (As := [.int (nI (k + 1))]) (rest := []) ⟨hx, hb, hml, hown, hts⟩ (mt_X0_at l dC dI cA s.heap.size r0 a0 L f (k + 1) hR (by first | omega | (simp only [List.length_append, List.length_cons, List.length_nil, List.length_set, turnL_len]; omega))) (cwV 1 hts gX1_about_X0_at rfl rfl rfl hdX0_at ⟨Nat.le_of_ble_eq_true rfl, Nat.le_of_ble_eq_true rfl⟩) hP hK hD [1, 2] (by decide) rfl (va_recv hK hP (ci := 0) (q0 := 1) rfl rfl) rfl hl.1 rfl (Nat.le_of_ble_eq_true rfl) dX1_about_31 (Nat.zero_le _) (Nat.zero_le _) ?_
  refine lv_istore (lv' := [(5, .int (atL L (k + 1))), (4, .int (atL L k)), (3, .ref r0), (0, .ref x0), (1, .int (nI 0)), (2, .int (nI k))]) hx hb dX1_about_34 hl (by decide) rfl (fun ls hl => ?_)
  refine lv_aload_n hx hb dX1_about_36 rfl (lv_at hl 2 rfl) ?_
  refine lv_iload_n hx hb dX1_about_37 rfl (lv_at hl 5 rfl) ?_
  refine lv_iconst (v := 2) hx hb dX1_about_38 (by decide) ?_
  refine lv_iadd hx hb dX1_about_39 ?_
  rw [show (nI k) + 2 = nI (k + 2) from nI_add k 2]
  refine g_RVi (As := [.int (nI (k + 2))]) (rest := []) ⟨hx, hb, hml, hown, hts⟩ (mt_X0_at l dC dI cA s.heap.size r0 a0 L f (k + 2) hR (by first | omega | (simp only [List.length_append, List.length_cons, List.length_nil, List.length_set, turnL_len]; omega))) (cwV 1 hts gX1_about_X0_at rfl rfl rfl hdX0_at ⟨Nat.le_of_ble_eq_true rfl, Nat.le_of_ble_eq_true rfl⟩) hP hK hD [1, 2] (by decide) rfl (va_recv hK hP (ci := 0) (q0 := 1) rfl rfl) rfl hl.1 rfl (Nat.le_of_ble_eq_true rfl) dX1_about_40 (Nat.zero_le _) (Nat.zero_le _) ?_
  refine lv_iload hx hb dX1_about_43 (lv_at hl 1 rfl) ?_
  refine lv_icmp_ne (tgt := 72) hx hb dX1_about_45 (by decide) (fun c45 => ?_) (fun c45 => ?_)
  · exact absurd ha1 c45
  · refine lv_iload hx hb dX1_about_48 (lv_at hl 0 rfl) ?_
    refine g_RSi (As := [.int (atL L (k + 1))]) (rest := []) ⟨hx, hb, hml, hown, hts⟩ (mt_X1_signOf l dC dI cA s.heap.size (atL L (k + 1))) (va_cwS 1 hts gX1_about_X1_signOf rfl rfl rfl hdX1_signOf ⟨Nat.le_of_ble_eq_true rfl, Nat.le_of_ble_eq_true rfl⟩) hP hK hD [] (by decide) rfl rfl hl.1 rfl (Nat.le_of_ble_eq_true rfl) dX1_about_50 (Nat.zero_le _) (Nat.zero_le _) ?_
    refine lv_iload hx hb dX1_about_53 (lv_at hl 1 rfl) ?_
    refine g_RSi (As := [.int (atL L k)]) (rest := [.int (sgI (atL L (k + 1)))]) ⟨hx, hb, hml, hown, hts⟩ (mt_X1_signOf l dC dI cA s.heap.size (atL L k)) (va_cwS 1 hts gX1_about_X1_signOf rfl rfl rfl hdX1_signOf ⟨Nat.le_of_ble_eq_true rfl, Nat.le_of_ble_eq_true rfl⟩) hP hK hD [] (by decide) rfl rfl hl.1 rfl (Nat.le_of_ble_eq_true rfl) dX1_about_55 (Nat.zero_le _) (Nat.zero_le _) ?_
    refine lv_icmp_ne (tgt := 72) hx hb dX1_about_58 (by decide) (fun c58 => ?_) (fun c58 => ?_)
    · exact absurd ha2 c58
    · refine lv_iload hx hb dX1_about_61 (lv_at hl 0 rfl) ?_
      refine lv_iload hx hb dX1_about_63 (lv_at hl 1 rfl) ?_
      refine g_RSi (As := [.int (atL L (k + 1)), .int (atL L k)]) (rest := []) ⟨hx, hb, hml, hown, hts⟩ (mt_X1_heightsApart l dC dI cA s.heap.size (atL L (k + 1)) (atL L k)) (va_cwS 2 hts gX1_about_X1_heightsApart rfl rfl rfl hdX1_heightsApart ⟨Nat.le_of_ble_eq_true rfl, Nat.le_of_ble_eq_true rfl⟩) hP hK hD [] (by decide) rfl rfl hl.1 rfl (Nat.le_of_ble_eq_true rfl) dX1_about_65 (Nat.zero_le _) (Nat.zero_le _) ?_
      refine lv_iconst (v := 1) hx hb dX1_about_68 (by decide) ?_
      refine lv_icmp_eq (tgt := 82) hx hb dX1_about_69 (by decide) (fun c69 => ?_) (fun c69 => ?_)
      · refine lv_aload_n hx hb dX1_about_82 rfl (lv_at hl 2 rfl) ?_
        refine lv_iload_n hx hb dX1_about_83 rfl (lv_at hl 5 rfl) ?_
        refine lv_iload hx hb dX1_about_84 (lv_at hl 0 rfl) ?_
        refine g_MVv (As := [.int (nI k), .int (atL L (k + 1))]) (rest := []) ⟨hx, hb, hml, hown, hts⟩ (mt_X0_set l dC dI cA s.heap.size r0 a0 L f k (atL L (k + 1)) hR (by first | omega | (simp only [List.length_append, List.length_cons, List.length_nil, List.length_set, turnL_len]; omega))) (cwV 2 hts gX1_about_X0_set rfl rfl rfl hdX0_set ⟨Nat.le_of_ble_eq_true rfl, Nat.le_of_ble_eq_true rfl⟩) hP hK hD hS hA [1, 2] (by decide) rfl (va_recv hK hP (ci := 0) (q0 := 1) rfl rfl) rfl hl.1 rfl (Nat.le_of_ble_eq_true rfl) dX1_about_86 (Nat.zero_le _) (Nat.zero_le _) (fun u9 => [(x0, .inr (1, [.ref r0, .ref r1, .ref r2, .ref r3, .int (nI rn)])), (r0, .inr (0, [.ref a0, .int (nI ((L.set k (atL L (k + 1))).length))])), (a0, .inl (cA, (100, .inl u9)))]) (fun _ => rfl) (fun _ => rfl) (fun u H locs hw_2 hP hD hS => ?_)
        obtain ⟨f1_1, rfl⟩ : ∃ z, z = u := ⟨_, rfl⟩
        have hw_2 : RI (L.set k (atL L (k + 1))) f1_1 := hw_2
        have hP : va_P (dC, dI) vwCl [(x0, .inr (1, [.ref r0, .ref r1, .ref r2, .ref r3, .int (nI rn)])), (r0, .inr (0, [.ref a0, .int (nI ((L.set k (atL L (k + 1))).length))])), (a0, .inl (cA, (100, .inl f1_1)))] H := hP
        have hD : va_D A [(x0, .inr (1, [.ref r0, .ref r1, .ref r2, .ref r3, .int (nI rn)])), (r0, .inr (0, [.ref a0, .int (nI ((L.set k (atL L (k + 1))).length))])), (a0, .inl (cA, (100, .inl f1_1)))] := hD
        refine lv_aload_n hx hb dX1_about_89 rfl (lv_at hl 2 rfl) ?_
        refine lv_iload_n hx hb dX1_about_90 rfl (lv_at hl 5 rfl) ?_
        refine lv_iconst (v := 1) hx hb dX1_about_91 (by decide) ?_
        refine lv_iadd hx hb dX1_about_92 ?_
        rw [show (nI k) + 1 = nI (k + 1) from nI_add k 1]
        refine lv_iload hx hb dX1_about_93 (lv_at hl 1 rfl) ?_
        refine g_MVv (As := [.int (nI (k + 1)), .int (atL L k)]) (rest := []) ⟨hx, hb, hml, hown, hts⟩ (mt_X0_set l dC dI cA H.size r0 a0 (L.set k (atL L (k + 1))) f1_1 (k + 1) (atL L k) hw_2 (by first | omega | (simp only [List.length_append, List.length_cons, List.length_nil, List.length_set, turnL_len]; omega))) (cwV 2 hts gX1_about_X0_set rfl rfl rfl hdX0_set ⟨Nat.le_of_ble_eq_true rfl, Nat.le_of_ble_eq_true rfl⟩) hP hK hD hS hA [1, 2] (by decide) rfl (va_recv hK hP (ci := 0) (q0 := 1) rfl rfl) rfl hl.1 rfl (Nat.le_of_ble_eq_true rfl) dX1_about_95 (Nat.zero_le _) (Nat.zero_le _) (fun u9 => [(x0, .inr (1, [.ref r0, .ref r1, .ref r2, .ref r3, .int (nI rn)])), (r0, .inr (0, [.ref a0, .int (nI (((L.set k (atL L (k + 1))).set (k + 1) (atL L k)).length))])), (a0, .inl (cA, (100, .inl u9)))]) (fun _ => rfl) (fun _ => rfl) (fun u H locs hw_4 hP hD hS => ?_)
        obtain ⟨f1_3, rfl⟩ : ∃ z, z = u := ⟨_, rfl⟩
        have hw_4 : RI ((L.set k (atL L (k + 1))).set (k + 1) (atL L k)) f1_3 := hw_4
        have hP : va_P (dC, dI) vwCl [(x0, .inr (1, [.ref r0, .ref r1, .ref r2, .ref r3, .int (nI rn)])), (r0, .inr (0, [.ref a0, .int (nI (((L.set k (atL L (k + 1))).set (k + 1) (atL L k)).length))])), (a0, .inl (cA, (100, .inl f1_3)))] H := hP
        have hD : va_D A [(x0, .inr (1, [.ref r0, .ref r1, .ref r2, .ref r3, .int (nI rn)])), (r0, .inr (0, [.ref a0, .int (nI (((L.set k (atL L (k + 1))).set (k + 1) (atL L k)).length))])), (a0, .inl (cA, (100, .inl f1_3)))] := hD
        refine lv_aload_n hx hb dX1_about_98 rfl (lv_at hl 2 rfl) ?_
        refine lv_iload_n hx hb dX1_about_99 rfl (lv_at hl 5 rfl) ?_
        refine lv_iconst (v := 2) hx hb dX1_about_100 (by decide) ?_
        refine lv_iadd hx hb dX1_about_101 ?_
        rw [show (nI k) + 2 = nI (k + 2) from nI_add k 2]
        refine lv_iload hx hb dX1_about_102 (lv_at hl 0 rfl) ?_
        refine g_MVv (As := [.int (nI (k + 2)), .int (atL L (k + 1))]) (rest := []) ⟨hx, hb, hml, hown, hts⟩ (mt_X0_set l dC dI cA H.size r0 a0 ((L.set k (atL L (k + 1))).set (k + 1) (atL L k)) f1_3 (k + 2) (atL L (k + 1)) hw_4 (by first | omega | (simp only [List.length_append, List.length_cons, List.length_nil, List.length_set, turnL_len]; omega))) (cwV 2 hts gX1_about_X0_set rfl rfl rfl hdX0_set ⟨Nat.le_of_ble_eq_true rfl, Nat.le_of_ble_eq_true rfl⟩) hP hK hD hS hA [1, 2] (by decide) rfl (va_recv hK hP (ci := 0) (q0 := 1) rfl rfl) rfl hl.1 rfl (Nat.le_of_ble_eq_true rfl) dX1_about_104 (Nat.zero_le _) (Nat.zero_le _) (fun u9 => [(x0, .inr (1, [.ref r0, .ref r1, .ref r2, .ref r3, .int (nI rn)])), (r0, .inr (0, [.ref a0, .int (nI ((((L.set k (atL L (k + 1))).set (k + 1) (atL L k)).set (k + 2) (atL L (k + 1))).length))])), (a0, .inl (cA, (100, .inl u9)))]) (fun _ => rfl) (fun _ => rfl) (fun u H locs hw_6 hP hD hS => ?_)
        obtain ⟨f1_5, rfl⟩ : ∃ z, z = u := ⟨_, rfl⟩
        have hw_6 : RI (((L.set k (atL L (k + 1))).set (k + 1) (atL L k)).set (k + 2) (atL L (k + 1))) f1_5 := hw_6
        have hP : va_P (dC, dI) vwCl [(x0, .inr (1, [.ref r0, .ref r1, .ref r2, .ref r3, .int (nI rn)])), (r0, .inr (0, [.ref a0, .int (nI ((((L.set k (atL L (k + 1))).set (k + 1) (atL L k)).set (k + 2) (atL L (k + 1))).length))])), (a0, .inl (cA, (100, .inl f1_5)))] H := hP
        have hD : va_D A [(x0, .inr (1, [.ref r0, .ref r1, .ref r2, .ref r3, .int (nI rn)])), (r0, .inr (0, [.ref a0, .int (nI ((((L.set k (atL L (k + 1))).set (k + 1) (atL L k)).set (k + 2) (atL L (k + 1))).length))])), (a0, .inl (cA, (100, .inl f1_5)))] := hD
        refine lv_iload hx hb dX1_about_107 (lv_at hl 0 rfl) ?_
        exact g_endMi hx hb hr hlocks hP hS dX1_about_109 f1_5 rfl rfl hw_6
      · exact absurd ha3 c69

abbrev mt_X1_insert0_rm : Room := { frames := 2, cells := 0, slots := 0, locals := 45 }
set_option maxHeartbeats 4000000 in
set_option maxRecDepth 100000 in
/-- insert -/
theorem mt_X1_insert0 (l : Launch) (dC : Nat → ClassId) (dI : Nat → Nat → Nat) (cA : ClassId) (sz : Nat) (x0 : Nat) (r0 : Nat) (r1 : Nat) (r2 : Nat) (r3 : Nat) (rn : Nat) (a0 : Nat) (L : List Int32) (f : Nat → Int32) (k : Nat) (x : Int32) (hR : RI L f) (hk : k ≤ L.length) (h0 : ¬ x = 0) (h1 : ¬ x ≤ -nI rn) (h2 : x < nI rn) (hk2 : L.length + 2 ≤ 30) : Met l yX1_insert wsX1_insert mt_X1_insert0_rm (va_Pc [.ref x0, .int (nI 0), .int (nI k), .int x] (gB (dC, dI) [(cA, .int)] [(x0, .inr (1, [.ref r0, .ref r1, .ref r2, .ref r3, .int (nI rn)])), (r0, .inr (0, [.ref a0, .int (nI L.length)])), (a0, .inl (cA, (100, .inl f)))] sz)) (gM (dC, dI) (some (.int (nI (insL (insL L k (-x)) k x).length))) (fun u : (Nat → Int32) => RI (insL (insL L k (-x)) k x) u) (fun u : (Nat → Int32) => [(x0, .inr (1, [.ref r0, .ref r1, .ref r2, .ref r3, .int (nI rn)])), (r0, .inr (0, [.ref a0, .int (nI ((insL (insL L k (-x)) k x).length))])), (a0, .inl (cA, (100, .inl u)))]) (va_A [(x0, .inr (1, [.ref r0, .ref r1, .ref r2, .ref r3, .int (nI rn)])), (r0, .inr (0, [.ref a0, .int (nI L.length)])), (a0, .inl (cA, (100, .inl f)))] sz)) 0 0 (va_A [(x0, .inr (1, [.ref r0, .ref r1, .ref r2, .ref r3, .int (nI rn)])), (r0, .inr (0, [.ref a0, .int (nI L.length)])), (a0, .inl (cA, (100, .inl f)))] sz) := by
  refine g_ofM (cc := cX1_insert) (maxL := 5) (ret := (some .int)) (by decide) rfl (Nat.le_of_ble_eq_true rfl) (fun p e s m below meth c ls hx hb hr hml hts hown hlocks hP hK hl hin A hA hD hS => ?_)
  have hl : lv_has ls 5 [(0, .ref x0), (1, .int (nI 0)), (2, .int (nI k)), (3, .int x)] := hl
  have hL := hR.1
  refine lv_iload_n hx hb dX1_insert_0 rfl (lv_at hl 1 rfl) ?_
  refine g_RSv (As := [.int (nI 0)]) (rest := []) ⟨hx, hb, hml, hown, hts⟩ (mt_X1_requireWord l dC dI cA s.heap.size 0 (by first | omega | (simp only [List.length_append, List.length_cons, List.length_nil, List.length_set, turnL_len]; omega))) (va_cwS 1 hts gX1_insert_X1_requireWord rfl rfl rfl hdX1_requireWord ⟨Nat.le_of_ble_eq_true rfl, Nat.le_of_ble_eq_true rfl⟩) hP hK hD [] (by decide) rfl rfl hl.1 rfl (Nat.le_of_ble_eq_true rfl) dX1_insert_1 (Nat.zero_le _) (Nat.zero_le _) ?_
  refine lv_aload_n hx hb dX1_insert_4 rfl (lv_at hl 0 rfl) ?_
  refine lv_iload_n hx hb dX1_insert_5 rfl (lv_at hl 1 rfl) ?_
  refine g_RVr (As := [.int (nI 0)]) (rest := []) ⟨hx, hb, hml, hown, hts⟩ (mt_X1_rowOf0 l dC dI cA s.heap.size x0 r0 r1 r2 r3 (nI rn)) (cwV 1 hts gX1_insert_X1_rowOf rfl rfl rfl hdX1_rowOf ⟨Nat.le_of_ble_eq_true rfl, Nat.le_of_ble_eq_true rfl⟩) hP hK hD [0] (by decide) rfl (va_recv hK hP (ci := 1) (q0 := 0) rfl rfl) rfl hl.1 rfl (Nat.le_of_ble_eq_true rfl) dX1_insert_6 (Nat.zero_le _) (Nat.zero_le _) ?_
  refine lv_astore (lv' := [(4, .ref r0), (0, .ref x0), (1, .int (nI 0)), (2, .int (nI k)), (3, .int x)]) hx hb dX1_insert_9 hl (by decide) rfl (fun ls hl => ?_)
  refine lv_iload_n hx hb dX1_insert_11 rfl (lv_at hl 3 rfl) ?_
  refine lv_aload hx hb dX1_insert_12 (lv_at hl 0 rfl) ?_
  refine g_RVi (As := []) (rest := [.int (nI k)]) ⟨hx, hb, hml, hown, hts⟩ (mt_X0_size l dC dI cA s.heap.size r0 a0 (nI L.length) f) (cwV 0 hts gX1_insert_X0_size rfl rfl rfl hdX0_size ⟨Nat.le_of_ble_eq_true rfl, Nat.le_of_ble_eq_true rfl⟩) hP hK hD [1, 2] (by decide) rfl (va_recv hK hP (ci := 0) (q0 := 1) rfl rfl) rfl hl.1 rfl (Nat.le_of_ble_eq_true rfl) dX1_insert_14 (Nat.zero_le _) (Nat.zero_le _) ?_
  refine lv_iconst (v := 1) hx hb dX1_insert_17 (by decide) ?_
  refine lv_iadd hx hb dX1_insert_18 ?_
  rw [show (nI L.length) + 1 = nI (L.length + 1) from nI_add L.length 1]
  refine g_RSv (As := [.int (nI k), .int (nI (L.length + 1))]) (rest := []) ⟨hx, hb, hml, hown, hts⟩ (mt_X1_requirePlace l dC dI cA s.heap.size (nI k) (nI (L.length + 1)) (nI_pos (by omega)) (nI_lt (by omega) (by omega))) (va_cwS 2 hts gX1_insert_X1_requirePlace rfl rfl rfl hdX1_requirePlace ⟨Nat.le_of_ble_eq_true rfl, Nat.le_of_ble_eq_true rfl⟩) hP hK hD [] (by decide) rfl rfl hl.1 rfl (Nat.le_of_ble_eq_true rfl) dX1_insert_19 (Nat.zero_le _) (Nat.zero_le _) ?_
  refine lv_aload_n hx hb dX1_insert_22 rfl (lv_at hl 1 rfl) ?_
  refine lv_iload_n hx hb dX1_insert_23 rfl (lv_at hl 4 rfl) ?_
  refine g_RVv (As := [.int x]) (rest := []) ⟨hx, hb, hml, hown, hts⟩ (mt_X1_requireLetter l dC dI cA s.heap.size x0 r0 r1 r2 r3 (nI rn) x h0 h1 h2) (cwV 1 hts gX1_insert_X1_requireLetter rfl rfl rfl hdX1_requireLetter ⟨Nat.le_of_ble_eq_true rfl, Nat.le_of_ble_eq_true rfl⟩) hP hK hD [0] (by decide) rfl (va_recv hK hP (ci := 1) (q0 := 0) rfl rfl) rfl hl.1 rfl (Nat.le_of_ble_eq_true rfl) dX1_insert_24 (Nat.zero_le _) (Nat.zero_le _) ?_
  refine lv_aload hx hb dX1_insert_27 (lv_at hl 0 rfl) ?_
  refine lv_iconst (v := 2) hx hb dX1_insert_29 (by decide) ?_
  refine g_RSv (As := [.ref r0, .int 2]) (rest := []) ⟨hx, hb, hml, hown, hts⟩ (mt_X1_requireRoom l dC dI cA s.heap.size r0 a0 L f 2 (room_ok L.length 2 (by omega))) (va_cwS 2 hts gX1_insert_X1_requireRoom rfl rfl rfl hdX1_requireRoom ⟨Nat.le_of_ble_eq_true rfl, Nat.le_of_ble_eq_true rfl⟩) hP hK hD [1, 2] (by decide) rfl rfl hl.1 rfl (Nat.le_of_ble_eq_true rfl) dX1_insert_30 (Nat.zero_le _) (Nat.zero_le _) ?_
  refine lv_aload hx hb dX1_insert_33 (lv_at hl 0 rfl) ?_
  refine lv_iload_n hx hb dX1_insert_35 rfl (lv_at hl 3 rfl) ?_
  refine lv_iload_n hx hb dX1_insert_36 rfl (lv_at hl 4 rfl) ?_
  refine lv_ineg hx hb dX1_insert_37 ?_
  refine g_MVv (As := [.int (nI k), .int (-x)]) (rest := []) ⟨hx, hb, hml, hown, hts⟩ (mt_X0_putIn l dC dI cA s.heap.size r0 a0 L f k (-x) hR (by first | omega | (simp only [List.length_append, List.length_cons, List.length_nil, List.length_set, turnL_len]; omega)) (by first | omega | (simp only [List.length_append, List.length_cons, List.length_nil, List.length_set, turnL_len]; omega))) (cwV 2 hts gX1_insert_X0_putIn rfl rfl rfl hdX0_putIn ⟨Nat.le_of_ble_eq_true rfl, Nat.le_of_ble_eq_true rfl⟩) hP hK hD hS hA [1, 2] (by decide) rfl (va_recv hK hP (ci := 0) (q0 := 1) rfl rfl) rfl hl.1 rfl (Nat.le_of_ble_eq_true rfl) dX1_insert_38 (Nat.zero_le _) (Nat.zero_le _) (fun u9 => [(x0, .inr (1, [.ref r0, .ref r1, .ref r2, .ref r3, .int (nI rn)])), (r0, .inr (0, [.ref a0, .int (nI ((insL L k (-x)).length))])), (a0, .inl (cA, (100, .inl u9)))]) (fun _ => rfl) (fun _ => rfl) (fun u H locs hw_2 hP hD hS => ?_)
  obtain ⟨f3_1, rfl⟩ : ∃ z, z = u := ⟨_, rfl⟩
  have hw_2 : RI (insL L k (-x)) f3_1 := hw_2
  have hP : va_P (dC, dI) vwCl [(x0, .inr (1, [.ref r0, .ref r1, .ref r2, .ref r3, .int (nI rn)])), (r0, .inr (0, [.ref a0, .int (nI ((insL L k (-x)).length))])), (a0, .inl (cA, (100, .inl f3_1)))] H := hP
  have hD : va_D A [(x0, .inr (1, [.ref r0, .ref r1, .ref r2, .ref r3, .int (nI rn)])), (r0, .inr (0, [.ref a0, .int (nI ((insL L k (-x)).length))])), (a0, .inl (cA, (100, .inl f3_1)))] := hD
  refine lv_aload hx hb dX1_insert_41 (lv_at hl 0 rfl) ?_
  refine lv_iload_n hx hb dX1_insert_43 rfl (lv_at hl 3 rfl) ?_
  refine lv_iload_n hx hb dX1_insert_44 rfl (lv_at hl 4 rfl) ?_
  refine g_MVv (As := [.int (nI k), .int x]) (rest := []) ⟨hx, hb, hml, hown, hts⟩ (mt_X0_putIn l dC dI cA H.size r0 a0 (insL L k (-x)) f3_1 k x hw_2 (by rw [insL_len hk]; omega) (by rw [insL_len hk]; omega)) (cwV 2 hts gX1_insert_X0_putIn rfl rfl rfl hdX0_putIn ⟨Nat.le_of_ble_eq_true rfl, Nat.le_of_ble_eq_true rfl⟩) hP hK hD hS hA [1, 2] (by decide) rfl (va_recv hK hP (ci := 0) (q0 := 1) rfl rfl) rfl hl.1 rfl (Nat.le_of_ble_eq_true rfl) dX1_insert_45 (Nat.zero_le _) (Nat.zero_le _) (fun u9 => [(x0, .inr (1, [.ref r0, .ref r1, .ref r2, .ref r3, .int (nI rn)])), (r0, .inr (0, [.ref a0, .int (nI ((insL (insL L k (-x)) k x).length))])), (a0, .inl (cA, (100, .inl u9)))]) (fun _ => rfl) (fun _ => rfl) (fun u H locs hw_4 hP hD hS => ?_)
  obtain ⟨f3_3, rfl⟩ : ∃ z, z = u := ⟨_, rfl⟩
  have hw_4 : RI (insL (insL L k (-x)) k x) f3_3 := hw_4
  have hP : va_P (dC, dI) vwCl [(x0, .inr (1, [.ref r0, .ref r1, .ref r2, .ref r3, .int (nI rn)])), (r0, .inr (0, [.ref a0, .int (nI ((insL (insL L k (-x)) k x).length))])), (a0, .inl (cA, (100, .inl f3_3)))] H := hP
  have hD : va_D A [(x0, .inr (1, [.ref r0, .ref r1, .ref r2, .ref r3, .int (nI rn)])), (r0, .inr (0, [.ref a0, .int (nI ((insL (insL L k (-x)) k x).length))])), (a0, .inl (cA, (100, .inl f3_3)))] := hD
  refine lv_aload hx hb dX1_insert_48 (lv_at hl 0 rfl) ?_
  refine g_RVi (As := []) (rest := []) ⟨hx, hb, hml, hown, hts⟩ (mt_X0_size l dC dI cA H.size r0 a0 (nI ((insL (insL L k (-x)) k x).length)) f3_3) (cwV 0 hts gX1_insert_X0_size rfl rfl rfl hdX0_size ⟨Nat.le_of_ble_eq_true rfl, Nat.le_of_ble_eq_true rfl⟩) hP hK hD [1, 2] (by decide) rfl (va_recv hK hP (ci := 0) (q0 := 1) rfl rfl) rfl hl.1 rfl (Nat.le_of_ble_eq_true rfl) dX1_insert_50 (Nat.zero_le _) (Nat.zero_le _) ?_
  exact g_endMi hx hb hr hlocks hP hS dX1_insert_53 f3_3 rfl rfl hw_4

abbrev mt_X1_cut0_rm : Room := { frames := 3, cells := 0, slots := 0, locals := 71 }
set_option maxHeartbeats 4000000 in
set_option maxRecDepth 100000 in
/-- cut -/
theorem mt_X1_cut0 (l : Launch) (dC : Nat → ClassId) (dI : Nat → Nat → Nat) (cA : ClassId) (sz : Nat) (x0 : Nat) (r0 : Nat) (r1 : Nat) (r2 : Nat) (r3 : Nat) (rn : Nat) (a0 : Nat) (L : List Int32) (f : Nat → Int32) (a3 : Nat) (n3 : Int32) (f3 : Nat → Int32) (b9 : Nat) (e9 : Nat) (hR : RI L f) (he : enF L 0 = some e9) (hb9 : bg L e9 = some b9) (hk : (cutL L b9 e9).length ≤ 30) : Met l yX1_cut wsX1_cut mt_X1_cut0_rm (va_Pc [.ref x0, .int (nI 0)] (gB (dC, dI) [(cA, .int)] [(x0, .inr (1, [.ref r0, .ref r1, .ref r2, .ref r3, .int (nI rn)])), (r0, .inr (0, [.ref a0, .int (nI L.length)])), (a0, .inl (cA, (100, .inl f))), (r3, .inr (0, [.ref a3, .int n3])), (a3, .inl (cA, (100, .inl f3)))] sz)) (gM (dC, dI) (some (.int (nI (cutL L b9 e9).length))) (fun u : (Nat → Int32) × (Nat → Int32) => RI (cutL L b9 e9) u.1) (fun u : (Nat → Int32) × (Nat → Int32) => [(x0, .inr (1, [.ref r0, .ref r1, .ref r2, .ref r3, .int (nI rn)])), (r0, .inr (0, [.ref a0, .int (nI ((cutL L b9 e9).length))])), (a0, .inl (cA, (100, .inl u.1))), (r3, .inr (0, [.ref a3, .int (nI ((cutL L b9 e9).length))])), (a3, .inl (cA, (100, .inl u.2)))]) (va_A [(x0, .inr (1, [.ref r0, .ref r1, .ref r2, .ref r3, .int (nI rn)])), (r0, .inr (0, [.ref a0, .int (nI L.length)])), (a0, .inl (cA, (100, .inl f))), (r3, .inr (0, [.ref a3, .int n3])), (a3, .inl (cA, (100, .inl f3)))] sz)) 0 0 (va_A [(x0, .inr (1, [.ref r0, .ref r1, .ref r2, .ref r3, .int (nI rn)])), (r0, .inr (0, [.ref a0, .int (nI L.length)])), (a0, .inl (cA, (100, .inl f))), (r3, .inr (0, [.ref a3, .int n3])), (a3, .inl (cA, (100, .inl f3)))] sz) := by
  refine g_ofM (cc := cX1_cut) (maxL := 5) (ret := (some .int)) (by decide) rfl (Nat.le_of_ble_eq_true rfl) (fun p e s m below meth c ls hx hb hr hml hts hown hlocks hP hK hl hin A hA hD hS => ?_)
  have hl : lv_has ls 5 [(0, .ref x0), (1, .int (nI 0))] := hl
  have hL := hR.1
  obtain ⟨-, he2, -, -⟩ := enF_spec he
  have hbl := bg_lt hb9
  refine lv_iload_n hx hb dX1_cut_0 rfl (lv_at hl 1 rfl) ?_
  refine g_RSv (As := [.int (nI 0)]) (rest := []) ⟨hx, hb, hml, hown, hts⟩ (mt_X1_requireWord l dC dI cA s.heap.size 0 (by first | omega | (simp only [List.length_append, List.length_cons, List.length_nil, List.length_set, turnL_len]; omega))) (va_cwS 1 hts gX1_cut_X1_requireWord rfl rfl rfl hdX1_requireWord ⟨Nat.le_of_ble_eq_true rfl, Nat.le_of_ble_eq_true rfl⟩) hP hK hD [] (by decide) rfl rfl hl.1 rfl (Nat.le_of_ble_eq_true rfl) dX1_cut_1 (Nat.zero_le _) (Nat.zero_le _) ?_
  refine lv_aload_n hx hb dX1_cut_4 rfl (lv_at hl 0 rfl) ?_
  refine lv_iload_n hx hb dX1_cut_5 rfl (lv_at hl 1 rfl) ?_
  refine g_RVr (As := [.int (nI 0)]) (rest := []) ⟨hx, hb, hml, hown, hts⟩ (mt_X1_rowOf0 l dC dI cA s.heap.size x0 r0 r1 r2 r3 (nI rn)) (cwV 1 hts gX1_cut_X1_rowOf rfl rfl rfl hdX1_rowOf ⟨Nat.le_of_ble_eq_true rfl, Nat.le_of_ble_eq_true rfl⟩) hP hK hD [0] (by decide) rfl (va_recv hK hP (ci := 1) (q0 := 0) rfl rfl) rfl hl.1 rfl (Nat.le_of_ble_eq_true rfl) dX1_cut_6 (Nat.zero_le _) (Nat.zero_le _) ?_
  refine lv_astore_n (lv' := [(2, .ref r0), (0, .ref x0), (1, .int (nI 0))]) hx hb dX1_cut_9 rfl hl (by decide) rfl (fun ls hl => ?_)
  refine lv_aload_n hx hb dX1_cut_10 rfl (lv_at hl 0 rfl) ?_
  refine lv_iconst (v := 0) hx hb dX1_cut_11 (by decide) ?_
  refine g_RSi (As := [.ref r0, .int 0]) (rest := []) ⟨hx, hb, hml, hown, hts⟩ (mt_X1_lastOfFirstHandle l dC dI cA s.heap.size r0 a0 L f 0 hR (by first | omega | (simp only [List.length_append, List.length_cons, List.length_nil, List.length_set, turnL_len]; omega))) (va_cwS 2 hts gX1_cut_X1_lastOfFirstHandle rfl rfl rfl hdX1_lastOfFirstHandle ⟨Nat.le_of_ble_eq_true rfl, Nat.le_of_ble_eq_true rfl⟩) hP hK hD [1, 2] (by decide) rfl rfl hl.1 rfl (Nat.le_of_ble_eq_true rfl) dX1_cut_12 (Nat.zero_le _) (Nat.zero_le _) ?_
  rw [show oiI (enF L 0) = nI e9 from by rw [he]; rfl]
  refine lv_istore_n (lv' := [(3, .int (nI e9)), (2, .ref r0), (0, .ref x0), (1, .int (nI 0))]) hx hb dX1_cut_15 rfl hl (by decide) rfl (fun ls hl => ?_)
  refine lv_iload_n hx hb dX1_cut_16 rfl (lv_at hl 0 rfl) ?_
  refine lv_iconst (v := (-1)) hx hb dX1_cut_17 (by decide) ?_
  refine lv_icmp_ne (tgt := 31) hx hb dX1_cut_18 (by decide) (fun c18 => ?_) (fun c18 => ?_)
  · refine lv_aload_n hx hb dX1_cut_31 rfl (lv_at hl 1 rfl) ?_
    refine lv_iload_n hx hb dX1_cut_32 rfl (lv_at hl 0 rfl) ?_
    refine g_RSi (As := [.ref r0, .int (nI e9)]) (rest := []) ⟨hx, hb, hml, hown, hts⟩ (mt_X1_firstOfHandle l dC dI cA s.heap.size r0 a0 L f e9 hR (by first | omega | (simp only [List.length_append, List.length_cons, List.length_nil, List.length_set, turnL_len]; omega))) (va_cwS 2 hts gX1_cut_X1_firstOfHandle rfl rfl rfl hdX1_firstOfHandle ⟨Nat.le_of_ble_eq_true rfl, Nat.le_of_ble_eq_true rfl⟩) hP hK hD [1, 2] (by decide) rfl rfl hl.1 rfl (Nat.le_of_ble_eq_true rfl) dX1_cut_33 (Nat.zero_le _) (Nat.zero_le _) ?_
    rw [show oiI (bg L e9) = nI b9 from by rw [hb9]; rfl]
    refine lv_istore (lv' := [(4, .int (nI b9)), (3, .int (nI e9)), (2, .ref r0), (0, .ref x0), (1, .int (nI 0))]) hx hb dX1_cut_36 hl (by decide) rfl (fun ls hl => ?_)
    refine lv_aload_n hx hb dX1_cut_38 rfl (lv_at hl 2 rfl) ?_
    refine lv_aload_n hx hb dX1_cut_39 rfl (lv_at hl 2 rfl) ?_
    refine lv_iload hx hb dX1_cut_40 (lv_at hl 0 rfl) ?_
    refine lv_iload_n hx hb dX1_cut_42 rfl (lv_at hl 1 rfl) ?_
    refine g_RSi (As := [.ref r0, .int (nI b9), .int (nI e9)]) (rest := [.ref r0]) ⟨hx, hb, hml, hown, hts⟩ (mt_X1_moreByCutting l dC dI cA s.heap.size r0 a0 L f b9 e9 hR (by first | omega | (simp only [List.length_append, List.length_cons, List.length_nil, List.length_set, turnL_len]; omega)) (by first | omega | (simp only [List.length_append, List.length_cons, List.length_nil, List.length_set, turnL_len]; omega))) (va_cwS 3 hts gX1_cut_X1_moreByCutting rfl rfl rfl hdX1_moreByCutting ⟨Nat.le_of_ble_eq_true rfl, Nat.le_of_ble_eq_true rfl⟩) hP hK hD [1, 2] (by decide) rfl rfl hl.1 rfl (Nat.le_of_ble_eq_true rfl) dX1_cut_43 (Nat.zero_le _) (Nat.zero_le _) ?_
    refine g_RSv (As := [.ref r0, .int (moI (cnL L b9 (e9 - (b9 + 1))))]) (rest := []) ⟨hx, hb, hml, hown, hts⟩ (mt_X1_requireRoom l dC dI cA s.heap.size r0 a0 L f (moI (cnL L b9 (e9 - (b9 + 1)))) (by rw [cut_more hbl he2]; exact nI_le hk (by decide))) (va_cwS 2 hts gX1_cut_X1_requireRoom rfl rfl rfl hdX1_requireRoom ⟨Nat.le_of_ble_eq_true rfl, Nat.le_of_ble_eq_true rfl⟩) hP hK hD [1, 2] (by decide) rfl rfl hl.1 rfl (Nat.le_of_ble_eq_true rfl) dX1_cut_46 (Nat.zero_le _) (Nat.zero_le _) ?_
    refine lv_aload_n hx hb dX1_cut_49 rfl (lv_at hl 3 rfl) ?_
    refine lv_aload_n hx hb dX1_cut_50 rfl (lv_at hl 2 rfl) ?_
    refine lv_iload hx hb dX1_cut_51 (lv_at hl 0 rfl) ?_
    refine lv_iload_n hx hb dX1_cut_53 rfl (lv_at hl 1 rfl) ?_
    refine g_MVv (As := [.ref r0, .int (nI b9), .int (nI e9)]) (rest := []) ⟨hx, hb, hml, hown, hts⟩ (mt_X1_cutHandle l dC dI cA s.heap.size x0 r0 r1 r2 r3 (nI rn) r0 a0 a3 L f n3 f3 b9 e9 hR (by first | omega | (simp only [List.length_append, List.length_cons, List.length_nil, List.length_set, turnL_len]; omega)) (by first | omega | (simp only [List.length_append, List.length_cons, List.length_nil, List.length_set, turnL_len]; omega)) (by first | omega | (simp only [List.length_append, List.length_cons, List.length_nil, List.length_set, turnL_len]; omega))) (cwV 3 hts gX1_cut_X1_cutHandle rfl rfl rfl hdX1_cutHandle ⟨Nat.le_of_ble_eq_true rfl, Nat.le_of_ble_eq_true rfl⟩) hP hK hD hS hA [0, 1, 2, 3, 4] (by decide) rfl (va_recv hK hP (ci := 1) (q0 := 0) rfl rfl) rfl hl.1 rfl (Nat.le_of_ble_eq_true rfl) dX1_cut_54 (Nat.zero_le _) (Nat.zero_le _) (fun u9 => [(x0, .inr (1, [.ref r0, .ref r1, .ref r2, .ref r3, .int (nI rn)])), (r0, .inr (0, [.ref a0, .int (nI ((cutL L b9 e9).length))])), (a0, .inl (cA, (100, .inl u9.1))), (r3, .inr (0, [.ref a3, .int (nI ((cutL L b9 e9).length))])), (a3, .inl (cA, (100, .inl u9.2)))]) (fun _ => rfl) (fun _ => rfl) (fun u H locs hw_3 hP hD hS => ?_)
    obtain ⟨f1_1, f2_2⟩ := u
    have hw_3 : RI (cutL L b9 e9) f1_1 := hw_3
    have hP : va_P (dC, dI) vwCl [(x0, .inr (1, [.ref r0, .ref r1, .ref r2, .ref r3, .int (nI rn)])), (r0, .inr (0, [.ref a0, .int (nI ((cutL L b9 e9).length))])), (a0, .inl (cA, (100, .inl f1_1))), (r3, .inr (0, [.ref a3, .int (nI ((cutL L b9 e9).length))])), (a3, .inl (cA, (100, .inl f2_2)))] H := hP
    have hD : va_D A [(x0, .inr (1, [.ref r0, .ref r1, .ref r2, .ref r3, .int (nI rn)])), (r0, .inr (0, [.ref a0, .int (nI ((cutL L b9 e9).length))])), (a0, .inl (cA, (100, .inl f1_1))), (r3, .inr (0, [.ref a3, .int (nI ((cutL L b9 e9).length))])), (a3, .inl (cA, (100, .inl f2_2)))] := hD
    refine lv_aload_n hx hb dX1_cut_57 rfl (lv_at hl 2 rfl) ?_
    refine g_RVi (As := []) (rest := []) ⟨hx, hb, hml, hown, hts⟩ (mt_X0_size l dC dI cA H.size r0 a0 (nI ((cutL L b9 e9).length)) f1_1) (cwV 0 hts gX1_cut_X0_size rfl rfl rfl hdX0_size ⟨Nat.le_of_ble_eq_true rfl, Nat.le_of_ble_eq_true rfl⟩) hP hK hD [1, 2] (by decide) rfl (va_recv hK hP (ci := 0) (q0 := 1) rfl rfl) rfl hl.1 rfl (Nat.le_of_ble_eq_true rfl) dX1_cut_58 (Nat.zero_le _) (Nat.zero_le _) ?_
    exact g_endMi hx hb hr hlocks hP hS dX1_cut_61 (f1_1, f2_2) rfl rfl hw_3
  · exact absurd c18 (nI_nm1 (by omega))

abbrev mt_X1_letter0_rm : Room := { frames := 1, cells := 0, slots := 0, locals := 21 }
set_option maxHeartbeats 4000000 in
set_option maxRecDepth 100000 in
/-- letter -/
theorem mt_X1_letter0 (l : Launch) (dC : Nat → ClassId) (dI : Nat → Nat → Nat) (cA : ClassId) (sz : Nat) (x0 : Nat) (r0 : Nat) (r1 : Nat) (r2 : Nat) (r3 : Nat) (rn : Nat) (a0 : Nat) (L : List Int32) (f : Nat → Int32) (k : Nat) (hR : RI L f) (hk : k < L.length) : Met l yX1_letter wsX1_letter mt_X1_letter0_rm (va_Pc [.ref x0, .int (nI 0), .int (nI k)] (gB (dC, dI) [(cA, .int)] [(x0, .inr (1, [.ref r0, .ref r1, .ref r2, .ref r3, .int (nI rn)])), (r0, .inr (0, [.ref a0, .int (nI L.length)])), (a0, .inl (cA, (100, .inl f)))] sz)) (gR (some (.int (atL L k)))) 0 0 (fun _ => False) := by
  refine g_ofR (cc := cX1_letter) (maxL := 4) (ret := (some .int)) (by decide) rfl (Nat.le_of_ble_eq_true rfl) (fun p e s m below meth c ls hx hb hr hml hts hown hlocks hP hK hl hD => ?_)
  have hS : va_S (fun _ => True) s.heap s.heap [] := va_S.rf
  have hl : lv_has ls 4 [(0, .ref x0), (1, .int (nI 0)), (2, .int (nI k))] := hl
  have hL := hR.1
  refine lv_iload_n hx hb dX1_letter_0 rfl (lv_at hl 1 rfl) ?_
  refine g_RSv (As := [.int (nI 0)]) (rest := []) ⟨hx, hb, hml, hown, hts⟩ (mt_X1_requireWord l dC dI cA s.heap.size 0 (by first | omega | (simp only [List.length_append, List.length_cons, List.length_nil, List.length_set, turnL_len]; omega))) (va_cwS 1 hts gX1_letter_X1_requireWord rfl rfl rfl hdX1_requireWord ⟨Nat.le_of_ble_eq_true rfl, Nat.le_of_ble_eq_true rfl⟩) hP hK hD [] (by decide) rfl rfl hl.1 rfl (Nat.le_of_ble_eq_true rfl) dX1_letter_1 (Nat.zero_le _) (Nat.zero_le _) ?_
  refine lv_aload_n hx hb dX1_letter_4 rfl (lv_at hl 0 rfl) ?_
  refine lv_iload_n hx hb dX1_letter_5 rfl (lv_at hl 1 rfl) ?_
  refine g_RVr (As := [.int (nI 0)]) (rest := []) ⟨hx, hb, hml, hown, hts⟩ (mt_X1_rowOf0 l dC dI cA s.heap.size x0 r0 r1 r2 r3 (nI rn)) (cwV 1 hts gX1_letter_X1_rowOf rfl rfl rfl hdX1_rowOf ⟨Nat.le_of_ble_eq_true rfl, Nat.le_of_ble_eq_true rfl⟩) hP hK hD [0] (by decide) rfl (va_recv hK hP (ci := 1) (q0 := 0) rfl rfl) rfl hl.1 rfl (Nat.le_of_ble_eq_true rfl) dX1_letter_6 (Nat.zero_le _) (Nat.zero_le _) ?_
  refine lv_astore_n (lv' := [(3, .ref r0), (0, .ref x0), (1, .int (nI 0)), (2, .int (nI k))]) hx hb dX1_letter_9 rfl hl (by decide) rfl (fun ls hl => ?_)
  refine lv_iload_n hx hb dX1_letter_10 rfl (lv_at hl 3 rfl) ?_
  refine lv_aload_n hx hb dX1_letter_11 rfl (lv_at hl 0 rfl) ?_
  refine g_RVi (As := []) (rest := [.int (nI k)]) ⟨hx, hb, hml, hown, hts⟩ (mt_X0_size l dC dI cA s.heap.size r0 a0 (nI L.length) f) (cwV 0 hts gX1_letter_X0_size rfl rfl rfl hdX0_size ⟨Nat.le_of_ble_eq_true rfl, Nat.le_of_ble_eq_true rfl⟩) hP hK hD [1, 2] (by decide) rfl (va_recv hK hP (ci := 0) (q0 := 1) rfl rfl) rfl hl.1 rfl (Nat.le_of_ble_eq_true rfl) dX1_letter_12 (Nat.zero_le _) (Nat.zero_le _) ?_
  refine g_RSv (As := [.int (nI k), .int (nI L.length)]) (rest := []) ⟨hx, hb, hml, hown, hts⟩ (mt_X1_requirePlace l dC dI cA s.heap.size (nI k) (nI L.length) (nI_pos (by omega)) (nI_lt hk (by omega))) (va_cwS 2 hts gX1_letter_X1_requirePlace rfl rfl rfl hdX1_requirePlace ⟨Nat.le_of_ble_eq_true rfl, Nat.le_of_ble_eq_true rfl⟩) hP hK hD [] (by decide) rfl rfl hl.1 rfl (Nat.le_of_ble_eq_true rfl) dX1_letter_15 (Nat.zero_le _) (Nat.zero_le _) ?_
  refine lv_aload_n hx hb dX1_letter_18 rfl (lv_at hl 0 rfl) ?_
  refine lv_iload_n hx hb dX1_letter_19 rfl (lv_at hl 3 rfl) ?_
  refine g_RVi (As := [.int (nI k)]) (rest := []) ⟨hx, hb, hml, hown, hts⟩ (mt_X0_at l dC dI cA s.heap.size r0 a0 L f k hR (by first | omega | (simp only [List.length_append, List.length_cons, List.length_nil, List.length_set, turnL_len]; omega))) (cwV 1 hts gX1_letter_X0_at rfl rfl rfl hdX0_at ⟨Nat.le_of_ble_eq_true rfl, Nat.le_of_ble_eq_true rfl⟩) hP hK hD [1, 2] (by decide) rfl (va_recv hK hP (ci := 0) (q0 := 1) rfl rfl) rfl hl.1 rfl (Nat.le_of_ble_eq_true rfl) dX1_letter_20 (Nat.zero_le _) (Nat.zero_le _) ?_
  exact g_endRi hx hb hr hlocks dX1_letter_23 rfl

abbrev mt_X1_end0_rm : Room := { frames := 3, cells := 0, slots := 0, locals := 65 }
set_option maxHeartbeats 4000000 in
set_option maxRecDepth 100000 in
/-- end -/
theorem mt_X1_end0 (l : Launch) (dC : Nat → ClassId) (dI : Nat → Nat → Nat) (cA : ClassId) (sz : Nat) (x0 : Nat) (r0 : Nat) (r1 : Nat) (r2 : Nat) (r3 : Nat) (rn : Nat) (a0 : Nat) (L : List Int32) (f : Nat → Int32) (x : Int32) (hR : RI L f) (h0 : ¬ x < 0) (h1 : x < nI rn) : Met l yX1_end wsX1_end mt_X1_end0_rm (va_Pc [.ref x0, .int (nI 0), .int x] (gB (dC, dI) [(cA, .int)] [(x0, .inr (1, [.ref r0, .ref r1, .ref r2, .ref r3, .int (nI rn)])), (r0, .inr (0, [.ref a0, .int (nI L.length)])), (a0, .inl (cA, (100, .inl f)))] sz)) (gR (some (.int (plE L x L.length)))) 0 0 (fun _ => False) := by
  refine g_ofR (cc := cX1_end) (maxL := 3) (ret := (some .int)) (by decide) rfl (Nat.le_of_ble_eq_true rfl) (fun p e s m below meth c ls hx hb hr hml hts hown hlocks hP hK hl hD => ?_)
  have hS : va_S (fun _ => True) s.heap s.heap [] := va_S.rf
  have hl : lv_has ls 3 [(0, .ref x0), (1, .int (nI 0)), (2, .int x)] := hl
  have hL := hR.1
  refine lv_iload_n hx hb dX1_end_0 rfl (lv_at hl 1 rfl) ?_
  refine g_RSv (As := [.int (nI 0)]) (rest := []) ⟨hx, hb, hml, hown, hts⟩ (mt_X1_requireWord l dC dI cA s.heap.size 0 (by first | omega | (simp only [List.length_append, List.length_cons, List.length_nil, List.length_set, turnL_len]; omega))) (va_cwS 1 hts gX1_end_X1_requireWord rfl rfl rfl hdX1_requireWord ⟨Nat.le_of_ble_eq_true rfl, Nat.le_of_ble_eq_true rfl⟩) hP hK hD [] (by decide) rfl rfl hl.1 rfl (Nat.le_of_ble_eq_true rfl) dX1_end_1 (Nat.zero_le _) (Nat.zero_le _) ?_
  refine lv_aload_n hx hb dX1_end_4 rfl (lv_at hl 0 rfl) ?_
  refine lv_iload_n hx hb dX1_end_5 rfl (lv_at hl 2 rfl) ?_
  refine g_RVv (As := [.int x]) (rest := []) ⟨hx, hb, hml, hown, hts⟩ (mt_X1_requireRope l dC dI cA s.heap.size x0 r0 r1 r2 r3 (nI rn) x h0 h1) (cwV 1 hts gX1_end_X1_requireRope rfl rfl rfl hdX1_requireRope ⟨Nat.le_of_ble_eq_true rfl, Nat.le_of_ble_eq_true rfl⟩) hP hK hD [0] (by decide) rfl (va_recv hK hP (ci := 1) (q0 := 0) rfl rfl) rfl hl.1 rfl (Nat.le_of_ble_eq_true rfl) dX1_end_6 (Nat.zero_le _) (Nat.zero_le _) ?_
  refine lv_aload_n hx hb dX1_end_9 rfl (lv_at hl 0 rfl) ?_
  refine lv_iload_n hx hb dX1_end_10 rfl (lv_at hl 1 rfl) ?_
  refine g_RVr (As := [.int (nI 0)]) (rest := []) ⟨hx, hb, hml, hown, hts⟩ (mt_X1_rowOf0 l dC dI cA s.heap.size x0 r0 r1 r2 r3 (nI rn)) (cwV 1 hts gX1_end_X1_rowOf rfl rfl rfl hdX1_rowOf ⟨Nat.le_of_ble_eq_true rfl, Nat.le_of_ble_eq_true rfl⟩) hP hK hD [0] (by decide) rfl (va_recv hK hP (ci := 1) (q0 := 0) rfl rfl) rfl hl.1 rfl (Nat.le_of_ble_eq_true rfl) dX1_end_11 (Nat.zero_le _) (Nat.zero_le _) ?_
  refine lv_iload_n hx hb dX1_end_14 rfl (lv_at hl 2 rfl) ?_
  refine g_RSi (As := [.ref r0, .int x]) (rest := []) ⟨hx, hb, hml, hown, hts⟩ (mt_X1_placeAtEnd l dC dI cA s.heap.size r0 a0 L f x hR) (va_cwS 2 hts gX1_end_X1_placeAtEnd rfl rfl rfl hdX1_placeAtEnd ⟨Nat.le_of_ble_eq_true rfl, Nat.le_of_ble_eq_true rfl⟩) hP hK hD [1, 2] (by decide) rfl rfl hl.1 rfl (Nat.le_of_ble_eq_true rfl) dX1_end_15 (Nat.zero_le _) (Nat.zero_le _) ?_
  exact g_endRi hx hb hr hlocks dX1_end_18 rfl

abbrev mt_X1_crosses0_rm : Room := { frames := 3, cells := 0, slots := 0, locals := 71 }
set_option maxHeartbeats 4000000 in
set_option maxRecDepth 100000 in
/-- crosses -/
theorem mt_X1_crosses0 (l : Launch) (dC : Nat → ClassId) (dI : Nat → Nat → Nat) (cA : ClassId) (sz : Nat) (x0 : Nat) (r0 : Nat) (r1 : Nat) (r2 : Nat) (r3 : Nat) (rn : Nat) (a0 : Nat) (L : List Int32) (f : Nat → Int32) (x : Int32) (y : Int32) (hR : RI L f) (h0 : ¬ x < 0) (h1 : x < nI rn) (h2 : ¬ y < 0) (h3 : y < nI rn) (h4 : ¬ x = y) : Met l yX1_crosses wsX1_crosses mt_X1_crosses0_rm (va_Pc [.ref x0, .int (nI 0), .int x, .int y] (gB (dC, dI) [(cA, .int)] [(x0, .inr (1, [.ref r0, .ref r1, .ref r2, .ref r3, .int (nI rn)])), (r0, .inr (0, [.ref a0, .int (nI L.length)])), (a0, .inl (cA, (100, .inl f)))] sz)) (gR (some (.int (crS L x y L.length)))) 0 0 (fun _ => False) := by
  refine g_ofR (cc := cX1_crosses) (maxL := 4) (ret := (some .int)) (by decide) rfl (Nat.le_of_ble_eq_true rfl) (fun p e s m below meth c ls hx hb hr hml hts hown hlocks hP hK hl hD => ?_)
  have hS : va_S (fun _ => True) s.heap s.heap [] := va_S.rf
  have hl : lv_has ls 4 [(0, .ref x0), (1, .int (nI 0)), (2, .int x), (3, .int y)] := hl
  have hL := hR.1
  refine lv_iload_n hx hb dX1_crosses_0 rfl (lv_at hl 1 rfl) ?_
  refine g_RSv (As := [.int (nI 0)]) (rest := []) ⟨hx, hb, hml, hown, hts⟩ (mt_X1_requireWord l dC dI cA s.heap.size 0 (by first | omega | (simp only [List.length_append, List.length_cons, List.length_nil, List.length_set, turnL_len]; omega))) (va_cwS 1 hts gX1_crosses_X1_requireWord rfl rfl rfl hdX1_requireWord ⟨Nat.le_of_ble_eq_true rfl, Nat.le_of_ble_eq_true rfl⟩) hP hK hD [] (by decide) rfl rfl hl.1 rfl (Nat.le_of_ble_eq_true rfl) dX1_crosses_1 (Nat.zero_le _) (Nat.zero_le _) ?_
  refine lv_aload_n hx hb dX1_crosses_4 rfl (lv_at hl 0 rfl) ?_
  refine lv_iload_n hx hb dX1_crosses_5 rfl (lv_at hl 2 rfl) ?_
  refine g_RVv (As := [.int x]) (rest := []) ⟨hx, hb, hml, hown, hts⟩ (mt_X1_requireRope l dC dI cA s.heap.size x0 r0 r1 r2 r3 (nI rn) x h0 h1) (cwV 1 hts gX1_crosses_X1_requireRope rfl rfl rfl hdX1_requireRope ⟨Nat.le_of_ble_eq_true rfl, Nat.le_of_ble_eq_true rfl⟩) hP hK hD [0] (by decide) rfl (va_recv hK hP (ci := 1) (q0 := 0) rfl rfl) rfl hl.1 rfl (Nat.le_of_ble_eq_true rfl) dX1_crosses_6 (Nat.zero_le _) (Nat.zero_le _) ?_
  refine lv_aload_n hx hb dX1_crosses_9 rfl (lv_at hl 0 rfl) ?_
  refine lv_iload_n hx hb dX1_crosses_10 rfl (lv_at hl 3 rfl) ?_
  refine g_RVv (As := [.int y]) (rest := []) ⟨hx, hb, hml, hown, hts⟩ (mt_X1_requireRope l dC dI cA s.heap.size x0 r0 r1 r2 r3 (nI rn) y h2 h3) (cwV 1 hts gX1_crosses_X1_requireRope rfl rfl rfl hdX1_requireRope ⟨Nat.le_of_ble_eq_true rfl, Nat.le_of_ble_eq_true rfl⟩) hP hK hD [0] (by decide) rfl (va_recv hK hP (ci := 1) (q0 := 0) rfl rfl) rfl hl.1 rfl (Nat.le_of_ble_eq_true rfl) dX1_crosses_11 (Nat.zero_le _) (Nat.zero_le _) ?_
  refine lv_iload_n hx hb dX1_crosses_14 rfl (lv_at hl 2 rfl) ?_
  refine lv_iload_n hx hb dX1_crosses_15 rfl (lv_at hl 3 rfl) ?_
  refine lv_icmp_ne (tgt := 29) hx hb dX1_crosses_16 (by decide) (fun c16 => ?_) (fun c16 => ?_)
  · refine lv_aload_n hx hb dX1_crosses_29 rfl (lv_at hl 0 rfl) ?_
    refine lv_iload_n hx hb dX1_crosses_30 rfl (lv_at hl 1 rfl) ?_
    refine g_RVr (As := [.int (nI 0)]) (rest := []) ⟨hx, hb, hml, hown, hts⟩ (mt_X1_rowOf0 l dC dI cA s.heap.size x0 r0 r1 r2 r3 (nI rn)) (cwV 1 hts gX1_crosses_X1_rowOf rfl rfl rfl hdX1_rowOf ⟨Nat.le_of_ble_eq_true rfl, Nat.le_of_ble_eq_true rfl⟩) hP hK hD [0] (by decide) rfl (va_recv hK hP (ci := 1) (q0 := 0) rfl rfl) rfl hl.1 rfl (Nat.le_of_ble_eq_true rfl) dX1_crosses_31 (Nat.zero_le _) (Nat.zero_le _) ?_
    refine lv_iload_n hx hb dX1_crosses_34 rfl (lv_at hl 2 rfl) ?_
    refine lv_iload_n hx hb dX1_crosses_35 rfl (lv_at hl 3 rfl) ?_
    refine g_RSi (As := [.ref r0, .int x, .int y]) (rest := []) ⟨hx, hb, hml, hown, hts⟩ (mt_X1_signsOfCrossings l dC dI cA s.heap.size r0 a0 L f x y hR) (va_cwS 3 hts gX1_crosses_X1_signsOfCrossings rfl rfl rfl hdX1_signsOfCrossings ⟨Nat.le_of_ble_eq_true rfl, Nat.le_of_ble_eq_true rfl⟩) hP hK hD [1, 2] (by decide) rfl rfl hl.1 rfl (Nat.le_of_ble_eq_true rfl) dX1_crosses_36 (Nat.zero_le _) (Nat.zero_le _) ?_
    exact g_endRi hx hb hr hlocks dX1_crosses_39 rfl
  · exact absurd c16 h4

abbrev mt_X1_handle0_rm : Room := { frames := 4, cells := 0, slots := 0, locals := 91 }
set_option maxHeartbeats 4000000 in
set_option maxRecDepth 100000 in
/-- handle -/
theorem mt_X1_handle0 (l : Launch) (dC : Nat → ClassId) (dI : Nat → Nat → Nat) (cA : ClassId) (sz : Nat) (x0 : Nat) (r0 : Nat) (r1 : Nat) (r2 : Nat) (r3 : Nat) (rn : Nat) (a0 : Nat) (L : List Int32) (f : Nat → Int32) (q : Nat) (hR : RI L f) (hq : q < 3) : Met l yX1_handle wsX1_handle mt_X1_handle0_rm (va_Pc [.ref x0, .int (nI 0), .int (nI q)] (gB (dC, dI) [(cA, .int)] [(x0, .inr (1, [.ref r0, .ref r1, .ref r2, .ref r3, .int (nI rn)])), (r0, .inr (0, [.ref a0, .int (nI L.length)])), (a0, .inl (cA, (100, .inl f)))] sz)) (gR (some (.int (haL L q)))) 0 0 (fun _ => False) := by
  refine g_ofR (cc := cX1_handle) (maxL := 3) (ret := (some .int)) (by decide) rfl (Nat.le_of_ble_eq_true rfl) (fun p e s m below meth c ls hx hb hr hml hts hown hlocks hP hK hl hD => ?_)
  have hS : va_S (fun _ => True) s.heap s.heap [] := va_S.rf
  have hl : lv_has ls 3 [(0, .ref x0), (1, .int (nI 0)), (2, .int (nI q))] := hl
  have hL := hR.1
  refine lv_iload_n hx hb dX1_handle_0 rfl (lv_at hl 1 rfl) ?_
  refine g_RSv (As := [.int (nI 0)]) (rest := []) ⟨hx, hb, hml, hown, hts⟩ (mt_X1_requireWord l dC dI cA s.heap.size 0 (by first | omega | (simp only [List.length_append, List.length_cons, List.length_nil, List.length_set, turnL_len]; omega))) (va_cwS 1 hts gX1_handle_X1_requireWord rfl rfl rfl hdX1_requireWord ⟨Nat.le_of_ble_eq_true rfl, Nat.le_of_ble_eq_true rfl⟩) hP hK hD [] (by decide) rfl rfl hl.1 rfl (Nat.le_of_ble_eq_true rfl) dX1_handle_1 (Nat.zero_le _) (Nat.zero_le _) ?_
  refine lv_iload_n hx hb dX1_handle_4 rfl (lv_at hl 2 rfl) ?_
  refine lv_iconst (v := 3) hx hb dX1_handle_5 (by decide) ?_
  refine g_RSv (As := [.int (nI q), .int 3]) (rest := []) ⟨hx, hb, hml, hown, hts⟩ (mt_X1_requireAnswer l dC dI cA s.heap.size (nI q) 3 (nI_pos (by omega)) (nI_lt hq (by decide))) (va_cwS 2 hts gX1_handle_X1_requireAnswer rfl rfl rfl hdX1_requireAnswer ⟨Nat.le_of_ble_eq_true rfl, Nat.le_of_ble_eq_true rfl⟩) hP hK hD [] (by decide) rfl rfl hl.1 rfl (Nat.le_of_ble_eq_true rfl) dX1_handle_6 (Nat.zero_le _) (Nat.zero_le _) ?_
  refine lv_aload_n hx hb dX1_handle_9 rfl (lv_at hl 0 rfl) ?_
  refine lv_iload_n hx hb dX1_handle_10 rfl (lv_at hl 1 rfl) ?_
  refine g_RVr (As := [.int (nI 0)]) (rest := []) ⟨hx, hb, hml, hown, hts⟩ (mt_X1_rowOf0 l dC dI cA s.heap.size x0 r0 r1 r2 r3 (nI rn)) (cwV 1 hts gX1_handle_X1_rowOf rfl rfl rfl hdX1_rowOf ⟨Nat.le_of_ble_eq_true rfl, Nat.le_of_ble_eq_true rfl⟩) hP hK hD [0] (by decide) rfl (va_recv hK hP (ci := 1) (q0 := 0) rfl rfl) rfl hl.1 rfl (Nat.le_of_ble_eq_true rfl) dX1_handle_11 (Nat.zero_le _) (Nat.zero_le _) ?_
  refine lv_iload_n hx hb dX1_handle_14 rfl (lv_at hl 2 rfl) ?_
  refine g_RSi (As := [.ref r0, .int (nI q)]) (rest := []) ⟨hx, hb, hml, hown, hts⟩ (mt_X1_handleAnswer l dC dI cA s.heap.size r0 a0 L f q hR (by first | omega | (simp only [List.length_append, List.length_cons, List.length_nil, List.length_set, turnL_len]; omega))) (va_cwS 2 hts gX1_handle_X1_handleAnswer rfl rfl rfl hdX1_handleAnswer ⟨Nat.le_of_ble_eq_true rfl, Nat.le_of_ble_eq_true rfl⟩) hP hK hD [1, 2] (by decide) rfl rfl hl.1 rfl (Nat.le_of_ble_eq_true rfl) dX1_handle_15 (Nat.zero_le _) (Nat.zero_le _) ?_
  exact g_endRi hx hb hr hlocks dX1_handle_18 rfl

abbrev mt_X1_plain0_rm : Room := { frames := 4, cells := 0, slots := 0, locals := 95 }
set_option maxHeartbeats 4000000 in
set_option maxRecDepth 100000 in
/-- plain -/
theorem mt_X1_plain0 (l : Launch) (dC : Nat → ClassId) (dI : Nat → Nat → Nat) (cA : ClassId) (sz : Nat) (x0 : Nat) (r0 : Nat) (r1 : Nat) (r2 : Nat) (r3 : Nat) (rn : Nat) (a0 : Nat) (L : List Int32) (f : Nat → Int32) (a2 : Nat) (n2 : Int32) (f2 : Nat → Int32) (a3 : Nat) (n3 : Int32) (f3 : Nat → Int32) (q : Nat) (hR : RI L f) (hq : q < 4) : Met l yX1_plain wsX1_plain mt_X1_plain0_rm (va_Pc [.ref x0, .int (nI 0), .int (nI q)] (gB (dC, dI) [(cA, .int)] [(x0, .inr (1, [.ref r0, .ref r1, .ref r2, .ref r3, .int (nI rn)])), (r0, .inr (0, [.ref a0, .int (nI L.length)])), (a0, .inl (cA, (100, .inl f))), (r2, .inr (0, [.ref a2, .int n2])), (a2, .inl (cA, (100, .inl f2))), (r3, .inr (0, [.ref a3, .int n3])), (a3, .inl (cA, (100, .inl f3)))] sz)) (gM (dC, dI) (some (.int (paI (plain L) q))) (fun u : Int32 × (Nat → Int32) × Int32 × (Nat → Int32) => True) (fun u : Int32 × (Nat → Int32) × Int32 × (Nat → Int32) => [(x0, .inr (1, [.ref r0, .ref r1, .ref r2, .ref r3, .int (nI rn)])), (r0, .inr (0, [.ref a0, .int (nI L.length)])), (a0, .inl (cA, (100, .inl f))), (r2, .inr (0, [.ref a2, .int u.1])), (a2, .inl (cA, (100, .inl u.2.1))), (r3, .inr (0, [.ref a3, .int u.2.2.1])), (a3, .inl (cA, (100, .inl u.2.2.2)))]) (va_A [(x0, .inr (1, [.ref r0, .ref r1, .ref r2, .ref r3, .int (nI rn)])), (r0, .inr (0, [.ref a0, .int (nI L.length)])), (a0, .inl (cA, (100, .inl f))), (r2, .inr (0, [.ref a2, .int n2])), (a2, .inl (cA, (100, .inl f2))), (r3, .inr (0, [.ref a3, .int n3])), (a3, .inl (cA, (100, .inl f3)))] sz)) 0 0 (va_A [(x0, .inr (1, [.ref r0, .ref r1, .ref r2, .ref r3, .int (nI rn)])), (r0, .inr (0, [.ref a0, .int (nI L.length)])), (a0, .inl (cA, (100, .inl f))), (r2, .inr (0, [.ref a2, .int n2])), (a2, .inl (cA, (100, .inl f2))), (r3, .inr (0, [.ref a3, .int n3])), (a3, .inl (cA, (100, .inl f3)))] sz) := by
  refine g_ofM (cc := cX1_plain) (maxL := 3) (ret := (some .int)) (by decide) rfl (Nat.le_of_ble_eq_true rfl) (fun p e s m below meth c ls hx hb hr hml hts hown hlocks hP hK hl hin A hA hD hS => ?_)
  have hl : lv_has ls 3 [(0, .ref x0), (1, .int (nI 0)), (2, .int (nI q))] := hl
  have hL := hR.1
  refine lv_iload_n hx hb dX1_plain_0 rfl (lv_at hl 1 rfl) ?_
  refine g_RSv (As := [.int (nI 0)]) (rest := []) ⟨hx, hb, hml, hown, hts⟩ (mt_X1_requireWord l dC dI cA s.heap.size 0 (by first | omega | (simp only [List.length_append, List.length_cons, List.length_nil, List.length_set, turnL_len]; omega))) (va_cwS 1 hts gX1_plain_X1_requireWord rfl rfl rfl hdX1_requireWord ⟨Nat.le_of_ble_eq_true rfl, Nat.le_of_ble_eq_true rfl⟩) hP hK hD [] (by decide) rfl rfl hl.1 rfl (Nat.le_of_ble_eq_true rfl) dX1_plain_1 (Nat.zero_le _) (Nat.zero_le _) ?_
  refine lv_iload_n hx hb dX1_plain_4 rfl (lv_at hl 2 rfl) ?_
  refine lv_iconst (v := 4) hx hb dX1_plain_5 (by decide) ?_
  refine g_RSv (As := [.int (nI q), .int 4]) (rest := []) ⟨hx, hb, hml, hown, hts⟩ (mt_X1_requireAnswer l dC dI cA s.heap.size (nI q) 4 (nI_pos (by omega)) (nI_lt hq (by decide))) (va_cwS 2 hts gX1_plain_X1_requireAnswer rfl rfl rfl hdX1_requireAnswer ⟨Nat.le_of_ble_eq_true rfl, Nat.le_of_ble_eq_true rfl⟩) hP hK hD [] (by decide) rfl rfl hl.1 rfl (Nat.le_of_ble_eq_true rfl) dX1_plain_6 (Nat.zero_le _) (Nat.zero_le _) ?_
  refine lv_aload_n hx hb dX1_plain_9 rfl (lv_at hl 0 rfl) ?_
  refine va_get (D := (dC, dI)) (ci := 1) (v := .ref r2) (C := RX1) (T := TX1) (N := 5) hx hb hts (in_X1_plain_1) hown hK hP 0 rfl rfl 2 (by decide) (hts (.fieldLink RX1 19 "BraidWords" "thought" "LBraidWords$Row;") (List.mem_of_getElem? (i := 1) rfl)) (fun _ h9 => h9) rfl dX1_plain_10 ?_
  refine lv_aload_n hx hb dX1_plain_13 rfl (lv_at hl 0 rfl) ?_
  refine lv_iload_n hx hb dX1_plain_14 rfl (lv_at hl 1 rfl) ?_
  refine g_RVr (As := [.int (nI 0)]) (rest := [.ref r2]) ⟨hx, hb, hml, hown, hts⟩ (mt_X1_rowOf0 l dC dI cA s.heap.size x0 r0 r1 r2 r3 (nI rn)) (cwV 1 hts gX1_plain_X1_rowOf rfl rfl rfl hdX1_rowOf ⟨Nat.le_of_ble_eq_true rfl, Nat.le_of_ble_eq_true rfl⟩) hP hK hD [0] (by decide) rfl (va_recv hK hP (ci := 1) (q0 := 0) rfl rfl) rfl hl.1 rfl (Nat.le_of_ble_eq_true rfl) dX1_plain_15 (Nat.zero_le _) (Nat.zero_le _) ?_
  refine g_MVv (As := [.ref r0]) (rest := []) ⟨hx, hb, hml, hown, hts⟩ (mt_X0_copy l dC dI cA s.heap.size r2 a2 r0 a0 n2 f2 L f hR) (cwV 1 hts gX1_plain_X0_copy rfl rfl rfl hdX0_copy ⟨Nat.le_of_ble_eq_true rfl, Nat.le_of_ble_eq_true rfl⟩) hP hK hD hS hA [3, 4, 1, 2] (by decide) rfl (va_recv hK hP (ci := 0) (q0 := 3) rfl rfl) rfl hl.1 rfl (Nat.le_of_ble_eq_true rfl) dX1_plain_18 (Nat.zero_le _) (Nat.zero_le _) (fun u9 => [(x0, .inr (1, [.ref r0, .ref r1, .ref r2, .ref r3, .int (nI rn)])), (r0, .inr (0, [.ref a0, .int (nI L.length)])), (a0, .inl (cA, (100, .inl f))), (r2, .inr (0, [.ref a2, .int (nI L.length)])), (a2, .inl (cA, (100, .inl u9))), (r3, .inr (0, [.ref a3, .int n3])), (a3, .inl (cA, (100, .inl f3)))]) (fun _ => rfl) (fun _ => rfl) (fun u H locs hw_2 hP hD hS => ?_)
  obtain ⟨f3_1, rfl⟩ : ∃ z, z = u := ⟨_, rfl⟩
  have hw_2 : RI L f3_1 := hw_2
  have hP : va_P (dC, dI) vwCl [(x0, .inr (1, [.ref r0, .ref r1, .ref r2, .ref r3, .int (nI rn)])), (r0, .inr (0, [.ref a0, .int (nI L.length)])), (a0, .inl (cA, (100, .inl f))), (r2, .inr (0, [.ref a2, .int (nI L.length)])), (a2, .inl (cA, (100, .inl f3_1))), (r3, .inr (0, [.ref a3, .int n3])), (a3, .inl (cA, (100, .inl f3)))] H := hP
  have hD : va_D A [(x0, .inr (1, [.ref r0, .ref r1, .ref r2, .ref r3, .int (nI rn)])), (r0, .inr (0, [.ref a0, .int (nI L.length)])), (a0, .inl (cA, (100, .inl f))), (r2, .inr (0, [.ref a2, .int (nI L.length)])), (a2, .inl (cA, (100, .inl f3_1))), (r3, .inr (0, [.ref a3, .int n3])), (a3, .inl (cA, (100, .inl f3)))] := hD
  refine lv_aload_n hx hb dX1_plain_21 rfl (lv_at hl 0 rfl) ?_
  refine lv_aload_n hx hb dX1_plain_22 rfl (lv_at hl 0 rfl) ?_
  refine g_MVi (As := []) (rest := [.ref x0]) ⟨hx, hb, hml, hown, hts⟩ (mt_X1_makeThoughtPlain l dC dI cA H.size x0 r0 r1 r2 r3 (nI rn) a2 a3 L f3_1 n3 f3 hw_2) (cwV 0 hts gX1_plain_X1_makeThoughtPlain rfl rfl rfl hdX1_makeThoughtPlain ⟨Nat.le_of_ble_eq_true rfl, Nat.le_of_ble_eq_true rfl⟩) hP hK hD hS hA [0, 3, 4, 5, 6] (by decide) rfl (va_recv hK hP (ci := 1) (q0 := 0) rfl rfl) rfl hl.1 rfl (Nat.le_of_ble_eq_true rfl) dX1_plain_23 (Nat.zero_le _) (Nat.zero_le _) (fun u9 => [(x0, .inr (1, [.ref r0, .ref r1, .ref r2, .ref r3, .int (nI rn)])), (r0, .inr (0, [.ref a0, .int (nI L.length)])), (a0, .inl (cA, (100, .inl f))), (r2, .inr (0, [.ref a2, .int (nI u9.1.length)])), (a2, .inl (cA, (100, .inl u9.2.1))), (r3, .inr (0, [.ref a3, .int u9.2.2.1])), (a3, .inl (cA, (100, .inl u9.2.2.2)))]) (fun _ => rfl) (fun _ => rfl) (fun u H locs hw_7 hP hD hS => ?_)
  obtain ⟨Lt_3, ft_4, n1_5, f1_6⟩ := u
  have hw_7 : RI Lt_3 ft_4 ∧ ∀ z, plain L = some z → Lt_3 = z.2 := hw_7
  have hP : va_P (dC, dI) vwCl [(x0, .inr (1, [.ref r0, .ref r1, .ref r2, .ref r3, .int (nI rn)])), (r0, .inr (0, [.ref a0, .int (nI L.length)])), (a0, .inl (cA, (100, .inl f))), (r2, .inr (0, [.ref a2, .int (nI Lt_3.length)])), (a2, .inl (cA, (100, .inl ft_4))), (r3, .inr (0, [.ref a3, .int n1_5])), (a3, .inl (cA, (100, .inl f1_6)))] H := hP
  have hD : va_D A [(x0, .inr (1, [.ref r0, .ref r1, .ref r2, .ref r3, .int (nI rn)])), (r0, .inr (0, [.ref a0, .int (nI L.length)])), (a0, .inl (cA, (100, .inl f))), (r2, .inr (0, [.ref a2, .int (nI Lt_3.length)])), (a2, .inl (cA, (100, .inl ft_4))), (r3, .inr (0, [.ref a3, .int n1_5])), (a3, .inl (cA, (100, .inl f1_6)))] := hD
  refine lv_iload_n hx hb dX1_plain_26 rfl (lv_at hl 2 rfl) ?_
  refine g_RVi (As := [.int (cuI (plain L)), .int (nI q)]) (rest := []) ⟨hx, hb, hml, hown, hts⟩ (mt_X1_plainAnswer l dC dI cA H.size x0 r0 r1 r2 r3 (nI rn) a2 Lt_3 ft_4 (plain L) q hw_7.1 (fun z hz => ⟨hw_7.2 z hz, (plain_small' (by first | omega | (simp only [List.length_append, List.length_cons, List.length_nil, turnL_len]; omega)) hz).1⟩) (by first | omega | (simp only [List.length_append, List.length_cons, List.length_nil, List.length_set, turnL_len]; omega))) (cwV 2 hts gX1_plain_X1_plainAnswer rfl rfl rfl hdX1_plainAnswer ⟨Nat.le_of_ble_eq_true rfl, Nat.le_of_ble_eq_true rfl⟩) hP hK hD [0, 3, 4] (by decide) rfl (va_recv hK hP (ci := 1) (q0 := 0) rfl rfl) rfl hl.1 rfl (Nat.le_of_ble_eq_true rfl) dX1_plain_27 (Nat.zero_le _) (Nat.zero_le _) ?_
  exact g_endMi hx hb hr hlocks hP hS dX1_plain_30 (nI Lt_3.length, ft_4, n1_5, f1_6) rfl rfl trivial

abbrev mt_X1_advise0_rm : Room := { frames := 6, cells := 0, slots := 0, locals := 144 }
abbrev mt_X1_twist1_rm : Room := { frames := 2, cells := 0, slots := 0, locals := 41 }
set_option maxHeartbeats 4000000 in
set_option maxRecDepth 100000 in
/-- twist -/
theorem mt_X1_twist1 (l : Launch) (dC : Nat → ClassId) (dI : Nat → Nat → Nat) (cA : ClassId) (sz : Nat) (x0 : Nat) (r0 : Nat) (r1 : Nat) (r2 : Nat) (r3 : Nat) (rn : Nat) (a1 : Nat) (L : List Int32) (f : Nat → Int32) (x : Int32) (hR : RI L f) (h0 : ¬ x = 0) (h1 : ¬ x ≤ -nI rn) (h2 : x < nI rn) (hk : L.length < 30) : Met l yX1_twist wsX1_twist mt_X1_twist1_rm (va_Pc [.ref x0, .int (nI 1), .int x] (gB (dC, dI) [(cA, .int)] [(x0, .inr (1, [.ref r0, .ref r1, .ref r2, .ref r3, .int (nI rn)])), (r1, .inr (0, [.ref a1, .int (nI L.length)])), (a1, .inl (cA, (100, .inl f)))] sz)) (gM (dC, dI) (some (.int (nI (L ++ [x]).length))) (fun u : (Nat → Int32) => RI (L ++ [x]) u) (fun u : (Nat → Int32) => [(x0, .inr (1, [.ref r0, .ref r1, .ref r2, .ref r3, .int (nI rn)])), (r1, .inr (0, [.ref a1, .int (nI ((L ++ [x]).length))])), (a1, .inl (cA, (100, .inl u)))]) (va_A [(x0, .inr (1, [.ref r0, .ref r1, .ref r2, .ref r3, .int (nI rn)])), (r1, .inr (0, [.ref a1, .int (nI L.length)])), (a1, .inl (cA, (100, .inl f)))] sz)) 0 0 (va_A [(x0, .inr (1, [.ref r0, .ref r1, .ref r2, .ref r3, .int (nI rn)])), (r1, .inr (0, [.ref a1, .int (nI L.length)])), (a1, .inl (cA, (100, .inl f)))] sz) := by
  refine g_ofM (cc := cX1_twist) (maxL := 4) (ret := (some .int)) (by decide) rfl (Nat.le_of_ble_eq_true rfl) (fun p e s m below meth c ls hx hb hr hml hts hown hlocks hP hK hl hin A hA hD hS => ?_)
  have hl : lv_has ls 4 [(0, .ref x0), (1, .int (nI 1)), (2, .int x)] := hl
  have hL := hR.1
  refine lv_iload_n hx hb dX1_twist_0 rfl (lv_at hl 1 rfl) ?_
  refine g_RSv (As := [.int (nI 1)]) (rest := []) ⟨hx, hb, hml, hown, hts⟩ (mt_X1_requireWord l dC dI cA s.heap.size 1 (by first | omega | (simp only [List.length_append, List.length_cons, List.length_nil, List.length_set, turnL_len]; omega))) (va_cwS 1 hts gX1_twist_X1_requireWord rfl rfl rfl hdX1_requireWord ⟨Nat.le_of_ble_eq_true rfl, Nat.le_of_ble_eq_true rfl⟩) hP hK hD [] (by decide) rfl rfl hl.1 rfl (Nat.le_of_ble_eq_true rfl) dX1_twist_1 (Nat.zero_le _) (Nat.zero_le _) ?_
  refine lv_aload_n hx hb dX1_twist_4 rfl (lv_at hl 0 rfl) ?_
  refine lv_iload_n hx hb dX1_twist_5 rfl (lv_at hl 2 rfl) ?_
  refine g_RVv (As := [.int x]) (rest := []) ⟨hx, hb, hml, hown, hts⟩ (mt_X1_requireLetter l dC dI cA s.heap.size x0 r0 r1 r2 r3 (nI rn) x (by first | omega | (simp only [List.length_append, List.length_cons, List.length_nil, List.length_set, turnL_len]; omega)) (by first | omega | (simp only [List.length_append, List.length_cons, List.length_nil, List.length_set, turnL_len]; omega)) (by first | omega | (simp only [List.length_append, List.length_cons, List.length_nil, List.length_set, turnL_len]; omega))) (cwV 1 hts gX1_twist_X1_requireLetter rfl rfl rfl hdX1_requireLetter ⟨Nat.le_of_ble_eq_true rfl, Nat.le_of_ble_eq_true rfl⟩) hP hK hD [0] (by decide) rfl (va_recv hK hP (ci := 1) (q0 := 0) rfl rfl) rfl hl.1 rfl (Nat.le_of_ble_eq_true rfl) dX1_twist_6 (Nat.zero_le _) (Nat.zero_le _) ?_
  refine lv_aload_n hx hb dX1_twist_9 rfl (lv_at hl 0 rfl) ?_
  refine lv_iload_n hx hb dX1_twist_10 rfl (lv_at hl 1 rfl) ?_
  refine g_RVr (As := [.int (nI 1)]) (rest := []) ⟨hx, hb, hml, hown, hts⟩ (mt_X1_rowOf1 l dC dI cA s.heap.size x0 r0 r1 r2 r3 (nI rn)) (cwV 1 hts gX1_twist_X1_rowOf rfl rfl rfl hdX1_rowOf ⟨Nat.le_of_ble_eq_true rfl, Nat.le_of_ble_eq_true rfl⟩) hP hK hD [0] (by decide) rfl (va_recv hK hP (ci := 1) (q0 := 0) rfl rfl) rfl hl.1 rfl (Nat.le_of_ble_eq_true rfl) dX1_twist_11 (Nat.zero_le _) (Nat.zero_le _) ?_
  refine lv_astore_n (lv' := [(3, .ref r1), (0, .ref x0), (1, .int (nI 1)), (2, .int x)]) hx hb dX1_twist_14 rfl hl (by decide) rfl (fun ls hl => ?_)
  refine lv_aload_n hx hb dX1_twist_15 rfl (lv_at hl 0 rfl) ?_
  refine lv_iconst (v := 1) hx hb dX1_twist_16 (by decide) ?_
  refine g_RSv (As := [.ref r1, .int 1]) (rest := []) ⟨hx, hb, hml, hown, hts⟩ (mt_X1_requireRoom l dC dI cA s.heap.size r1 a1 L f 1 (room_ok L.length 1 (by omega))) (va_cwS 2 hts gX1_twist_X1_requireRoom rfl rfl rfl hdX1_requireRoom ⟨Nat.le_of_ble_eq_true rfl, Nat.le_of_ble_eq_true rfl⟩) hP hK hD [1, 2] (by decide) rfl rfl hl.1 rfl (Nat.le_of_ble_eq_true rfl) dX1_twist_17 (Nat.zero_le _) (Nat.zero_le _) ?_
  refine lv_aload_n hx hb dX1_twist_20 rfl (lv_at hl 0 rfl) ?_
  refine lv_iload_n hx hb dX1_twist_21 rfl (lv_at hl 3 rfl) ?_
  refine g_MVv (As := [.int x]) (rest := []) ⟨hx, hb, hml, hown, hts⟩ (mt_X0_add l dC dI cA s.heap.size r1 a1 L f x hR (by first | omega | (simp only [List.length_append, List.length_cons, List.length_nil, List.length_set, turnL_len]; omega))) (cwV 1 hts gX1_twist_X0_add rfl rfl rfl hdX0_add ⟨Nat.le_of_ble_eq_true rfl, Nat.le_of_ble_eq_true rfl⟩) hP hK hD hS hA [1, 2] (by decide) rfl (va_recv hK hP (ci := 0) (q0 := 1) rfl rfl) rfl hl.1 rfl (Nat.le_of_ble_eq_true rfl) dX1_twist_22 (Nat.zero_le _) (Nat.zero_le _) (fun u9 => [(x0, .inr (1, [.ref r0, .ref r1, .ref r2, .ref r3, .int (nI rn)])), (r1, .inr (0, [.ref a1, .int (nI ((L ++ [x]).length))])), (a1, .inl (cA, (100, .inl u9)))]) (fun _ => rfl) (fun _ => rfl) (fun u H locs hw_2 hP hD hS => ?_)
  obtain ⟨f1_1, rfl⟩ : ∃ z, z = u := ⟨_, rfl⟩
  have hw_2 : RI (L ++ [x]) f1_1 := hw_2
  have hP : va_P (dC, dI) vwCl [(x0, .inr (1, [.ref r0, .ref r1, .ref r2, .ref r3, .int (nI rn)])), (r1, .inr (0, [.ref a1, .int (nI ((L ++ [x]).length))])), (a1, .inl (cA, (100, .inl f1_1)))] H := hP
  have hD : va_D A [(x0, .inr (1, [.ref r0, .ref r1, .ref r2, .ref r3, .int (nI rn)])), (r1, .inr (0, [.ref a1, .int (nI ((L ++ [x]).length))])), (a1, .inl (cA, (100, .inl f1_1)))] := hD
  refine lv_aload_n hx hb dX1_twist_25 rfl (lv_at hl 0 rfl) ?_
  refine g_RVi (As := []) (rest := []) ⟨hx, hb, hml, hown, hts⟩ (mt_X0_size l dC dI cA H.size r1 a1 (nI ((L ++ [x]).length)) f1_1) (cwV 0 hts gX1_twist_X0_size rfl rfl rfl hdX0_size ⟨Nat.le_of_ble_eq_true rfl, Nat.le_of_ble_eq_true rfl⟩) hP hK hD [1, 2] (by decide) rfl (va_recv hK hP (ci := 0) (q0 := 1) rfl rfl) rfl hl.1 rfl (Nat.le_of_ble_eq_true rfl) dX1_twist_26 (Nat.zero_le _) (Nat.zero_le _) ?_
  exact g_endMi hx hb hr hlocks hP hS dX1_twist_29 f1_1 rfl rfl hw_2

abbrev mt_X1_untwist1_rm : Room := { frames := 1, cells := 0, slots := 0, locals := 21 }
set_option maxHeartbeats 4000000 in
set_option maxRecDepth 100000 in
/-- untwist -/
theorem mt_X1_untwist1 (l : Launch) (dC : Nat → ClassId) (dI : Nat → Nat → Nat) (cA : ClassId) (sz : Nat) (x0 : Nat) (r0 : Nat) (r1 : Nat) (r2 : Nat) (r3 : Nat) (rn : Nat) (a1 : Nat) (L : List Int32) (f : Nat → Int32) (hR : RI L f) (hk : 0 < L.length) : Met l yX1_untwist wsX1_untwist mt_X1_untwist1_rm (va_Pc [.ref x0, .int (nI 1)] (gB (dC, dI) [(cA, .int)] [(x0, .inr (1, [.ref r0, .ref r1, .ref r2, .ref r3, .int (nI rn)])), (r1, .inr (0, [.ref a1, .int (nI L.length)])), (a1, .inl (cA, (100, .inl f)))] sz)) (gM (dC, dI) (some (.int (atL L (L.length - 1)))) (fun u : Unit => True) (fun u : Unit => [(x0, .inr (1, [.ref r0, .ref r1, .ref r2, .ref r3, .int (nI rn)])), (r1, .inr (0, [.ref a1, .int (nI L.dropLast.length)])), (a1, .inl (cA, (100, .inl f)))]) (va_A [(x0, .inr (1, [.ref r0, .ref r1, .ref r2, .ref r3, .int (nI rn)])), (r1, .inr (0, [.ref a1, .int (nI L.length)])), (a1, .inl (cA, (100, .inl f)))] sz)) 0 0 (va_A [(x0, .inr (1, [.ref r0, .ref r1, .ref r2, .ref r3, .int (nI rn)])), (r1, .inr (0, [.ref a1, .int (nI L.length)])), (a1, .inl (cA, (100, .inl f)))] sz) := by
  refine g_ofM (cc := cX1_untwist) (maxL := 4) (ret := (some .int)) (by decide) rfl (Nat.le_of_ble_eq_true rfl) (fun p e s m below meth c ls hx hb hr hml hts hown hlocks hP hK hl hin A hA hD hS => ?_)
  have hl : lv_has ls 4 [(0, .ref x0), (1, .int (nI 1))] := hl
  have hL := hR.1
  refine lv_iload_n hx hb dX1_untwist_0 rfl (lv_at hl 1 rfl) ?_
  refine g_RSv (As := [.int (nI 1)]) (rest := []) ⟨hx, hb, hml, hown, hts⟩ (mt_X1_requireWord l dC dI cA s.heap.size 1 (by first | omega | (simp only [List.length_append, List.length_cons, List.length_nil, List.length_set, turnL_len]; omega))) (va_cwS 1 hts gX1_untwist_X1_requireWord rfl rfl rfl hdX1_requireWord ⟨Nat.le_of_ble_eq_true rfl, Nat.le_of_ble_eq_true rfl⟩) hP hK hD [] (by decide) rfl rfl hl.1 rfl (Nat.le_of_ble_eq_true rfl) dX1_untwist_1 (Nat.zero_le _) (Nat.zero_le _) ?_
  refine lv_aload_n hx hb dX1_untwist_4 rfl (lv_at hl 0 rfl) ?_
  refine lv_iload_n hx hb dX1_untwist_5 rfl (lv_at hl 1 rfl) ?_
  refine g_RVr (As := [.int (nI 1)]) (rest := []) ⟨hx, hb, hml, hown, hts⟩ (mt_X1_rowOf1 l dC dI cA s.heap.size x0 r0 r1 r2 r3 (nI rn)) (cwV 1 hts gX1_untwist_X1_rowOf rfl rfl rfl hdX1_rowOf ⟨Nat.le_of_ble_eq_true rfl, Nat.le_of_ble_eq_true rfl⟩) hP hK hD [0] (by decide) rfl (va_recv hK hP (ci := 1) (q0 := 0) rfl rfl) rfl hl.1 rfl (Nat.le_of_ble_eq_true rfl) dX1_untwist_6 (Nat.zero_le _) (Nat.zero_le _) ?_
  refine lv_astore_n (lv' := [(2, .ref r1), (0, .ref x0), (1, .int (nI 1))]) hx hb dX1_untwist_9 rfl hl (by decide) rfl (fun ls hl => ?_)
  refine lv_aload_n hx hb dX1_untwist_10 rfl (lv_at hl 0 rfl) ?_
  refine g_RVi (As := []) (rest := []) ⟨hx, hb, hml, hown, hts⟩ (mt_X0_size l dC dI cA s.heap.size r1 a1 (nI L.length) f) (cwV 0 hts gX1_untwist_X0_size rfl rfl rfl hdX0_size ⟨Nat.le_of_ble_eq_true rfl, Nat.le_of_ble_eq_true rfl⟩) hP hK hD [1, 2] (by decide) rfl (va_recv hK hP (ci := 0) (q0 := 1) rfl rfl) rfl hl.1 rfl (Nat.le_of_ble_eq_true rfl) dX1_untwist_11 (Nat.zero_le _) (Nat.zero_le _) ?_
  refine lv_if_ne (tgt := 27) hx hb dX1_untwist_14 (by decide) (fun c14 => ?_) (fun c14 => ?_)
  · have c14 : ¬ L.length = 0 := g_neT L.length 0 (by omega) (by omega) c14
    refine lv_aload_n hx hb dX1_untwist_27 rfl (lv_at hl 0 rfl) ?_
    refine lv_aload_n hx hb dX1_untwist_28 rfl (lv_at hl 0 rfl) ?_
    refine g_RVi (As := []) (rest := [.ref r1]) ⟨hx, hb, hml, hown, hts⟩ (mt_X0_size l dC dI cA s.heap.size r1 a1 (nI L.length) f) (cwV 0 hts gX1_untwist_X0_size rfl rfl rfl hdX0_size ⟨Nat.le_of_ble_eq_true rfl, Nat.le_of_ble_eq_true rfl⟩) hP hK hD [1, 2] (by decide) rfl (va_recv hK hP (ci := 0) (q0 := 1) rfl rfl) rfl hl.1 rfl (Nat.le_of_ble_eq_true rfl) dX1_untwist_29 (Nat.zero_le _) (Nat.zero_le _) ?_
    refine lv_iconst (v := 1) hx hb dX1_untwist_32 (by decide) ?_
    refine lv_isub hx hb dX1_untwist_33 ?_
    rw [show nI L.length - 1 = nI (L.length - 1) from (plI_sub _).trans (plI_pred (by omega))]
    refine g_RVi (As := [.int (nI (L.length - 1))]) (rest := []) ⟨hx, hb, hml, hown, hts⟩ (mt_X0_at l dC dI cA s.heap.size r1 a1 L f (L.length - 1) hR (by first | omega | (simp only [List.length_append, List.length_cons, List.length_nil, List.length_set, turnL_len]; omega))) (cwV 1 hts gX1_untwist_X0_at rfl rfl rfl hdX0_at ⟨Nat.le_of_ble_eq_true rfl, Nat.le_of_ble_eq_true rfl⟩) hP hK hD [1, 2] (by decide) rfl (va_recv hK hP (ci := 0) (q0 := 1) rfl rfl) rfl hl.1 rfl (Nat.le_of_ble_eq_true rfl) dX1_untwist_34 (Nat.zero_le _) (Nat.zero_le _) ?_
    refine lv_istore_n (lv' := [(3, .int (atL L (L.length - 1))), (2, .ref r1), (0, .ref x0), (1, .int (nI 1))]) hx hb dX1_untwist_37 rfl hl (by decide) rfl (fun ls hl => ?_)
    refine lv_aload_n hx hb dX1_untwist_38 rfl (lv_at hl 1 rfl) ?_
    refine g_MVv (As := []) (rest := []) ⟨hx, hb, hml, hown, hts⟩ (mt_X0_dropLast l dC dI cA s.heap.size r1 a1 L f hR (by first | omega | (simp only [List.length_append, List.length_cons, List.length_nil, List.length_set, turnL_len]; omega))) (cwV 0 hts gX1_untwist_X0_dropLast rfl rfl rfl hdX0_dropLast ⟨Nat.le_of_ble_eq_true rfl, Nat.le_of_ble_eq_true rfl⟩) hP hK hD hS hA [1, 2] (by decide) rfl (va_recv hK hP (ci := 0) (q0 := 1) rfl rfl) rfl hl.1 rfl (Nat.le_of_ble_eq_true rfl) dX1_untwist_39 (Nat.zero_le _) (Nat.zero_le _) (fun u9 => [(x0, .inr (1, [.ref r0, .ref r1, .ref r2, .ref r3, .int (nI rn)])), (r1, .inr (0, [.ref a1, .int (nI L.dropLast.length)])), (a1, .inl (cA, (100, .inl f)))]) (fun _ => rfl) (fun _ => rfl) (fun u H locs hw_1 hP hD hS => ?_)
    have hw_1 : True := hw_1
    have hP : va_P (dC, dI) vwCl [(x0, .inr (1, [.ref r0, .ref r1, .ref r2, .ref r3, .int (nI rn)])), (r1, .inr (0, [.ref a1, .int (nI L.dropLast.length)])), (a1, .inl (cA, (100, .inl f)))] H := hP
    have hD : va_D A [(x0, .inr (1, [.ref r0, .ref r1, .ref r2, .ref r3, .int (nI rn)])), (r1, .inr (0, [.ref a1, .int (nI L.dropLast.length)])), (a1, .inl (cA, (100, .inl f)))] := hD
    refine lv_iload_n hx hb dX1_untwist_42 rfl (lv_at hl 0 rfl) ?_
    exact g_endMi hx hb hr hlocks hP hS dX1_untwist_43 () rfl rfl trivial
  · exact absurd (g_neF L.length 0 (by omega) (by omega) c14) (by omega)

abbrev mt_X1_turn1_rm : Room := { frames := 2, cells := 0, slots := 0, locals := 44 }
set_option maxHeartbeats 4000000 in
set_option maxRecDepth 100000 in
/-- turn -/
theorem mt_X1_turn1 (l : Launch) (dC : Nat → ClassId) (dI : Nat → Nat → Nat) (cA : ClassId) (sz : Nat) (x0 : Nat) (r0 : Nat) (r1 : Nat) (r2 : Nat) (r3 : Nat) (rn : Nat) (a1 : Nat) (L : List Int32) (f : Nat → Int32) (a3 : Nat) (n3 : Int32) (f3 : Nat → Int32) (hR : RI L f) : Met l yX1_turn wsX1_turn mt_X1_turn1_rm (va_Pc [.ref x0, .int (nI 1)] (gB (dC, dI) [(cA, .int)] [(x0, .inr (1, [.ref r0, .ref r1, .ref r2, .ref r3, .int (nI rn)])), (r1, .inr (0, [.ref a1, .int (nI L.length)])), (a1, .inl (cA, (100, .inl f))), (r3, .inr (0, [.ref a3, .int n3])), (a3, .inl (cA, (100, .inl f3)))] sz)) (gM (dC, dI) (some (.int (nI (turnL L).length))) (fun u : (Nat → Int32) × (Nat → Int32) => RI (turnL L) u.1) (fun u : (Nat → Int32) × (Nat → Int32) => [(x0, .inr (1, [.ref r0, .ref r1, .ref r2, .ref r3, .int (nI rn)])), (r1, .inr (0, [.ref a1, .int (nI ((turnL L).length))])), (a1, .inl (cA, (100, .inl u.1))), (r3, .inr (0, [.ref a3, .int (nI ((turnL L).length))])), (a3, .inl (cA, (100, .inl u.2)))]) (va_A [(x0, .inr (1, [.ref r0, .ref r1, .ref r2, .ref r3, .int (nI rn)])), (r1, .inr (0, [.ref a1, .int (nI L.length)])), (a1, .inl (cA, (100, .inl f))), (r3, .inr (0, [.ref a3, .int n3])), (a3, .inl (cA, (100, .inl f3)))] sz)) 0 0 (va_A [(x0, .inr (1, [.ref r0, .ref r1, .ref r2, .ref r3, .int (nI rn)])), (r1, .inr (0, [.ref a1, .int (nI L.length)])), (a1, .inl (cA, (100, .inl f))), (r3, .inr (0, [.ref a3, .int n3])), (a3, .inl (cA, (100, .inl f3)))] sz) := by
  refine g_ofM (cc := cX1_turn) (maxL := 3) (ret := (some .int)) (by decide) rfl (Nat.le_of_ble_eq_true rfl) (fun p e s m below meth c ls hx hb hr hml hts hown hlocks hP hK hl hin A hA hD hS => ?_)
  have hl : lv_has ls 3 [(0, .ref x0), (1, .int (nI 1))] := hl
  have hL := hR.1
  refine lv_iload_n hx hb dX1_turn_0 rfl (lv_at hl 1 rfl) ?_
  refine g_RSv (As := [.int (nI 1)]) (rest := []) ⟨hx, hb, hml, hown, hts⟩ (mt_X1_requireWord l dC dI cA s.heap.size 1 (by first | omega | (simp only [List.length_append, List.length_cons, List.length_nil, List.length_set, turnL_len]; omega))) (va_cwS 1 hts gX1_turn_X1_requireWord rfl rfl rfl hdX1_requireWord ⟨Nat.le_of_ble_eq_true rfl, Nat.le_of_ble_eq_true rfl⟩) hP hK hD [] (by decide) rfl rfl hl.1 rfl (Nat.le_of_ble_eq_true rfl) dX1_turn_1 (Nat.zero_le _) (Nat.zero_le _) ?_
  refine lv_aload_n hx hb dX1_turn_4 rfl (lv_at hl 0 rfl) ?_
  refine lv_iload_n hx hb dX1_turn_5 rfl (lv_at hl 1 rfl) ?_
  refine g_RVr (As := [.int (nI 1)]) (rest := []) ⟨hx, hb, hml, hown, hts⟩ (mt_X1_rowOf1 l dC dI cA s.heap.size x0 r0 r1 r2 r3 (nI rn)) (cwV 1 hts gX1_turn_X1_rowOf rfl rfl rfl hdX1_rowOf ⟨Nat.le_of_ble_eq_true rfl, Nat.le_of_ble_eq_true rfl⟩) hP hK hD [0] (by decide) rfl (va_recv hK hP (ci := 1) (q0 := 0) rfl rfl) rfl hl.1 rfl (Nat.le_of_ble_eq_true rfl) dX1_turn_6 (Nat.zero_le _) (Nat.zero_le _) ?_
  refine lv_astore_n (lv' := [(2, .ref r1), (0, .ref x0), (1, .int (nI 1))]) hx hb dX1_turn_9 rfl hl (by decide) rfl (fun ls hl => ?_)
  refine lv_aload_n hx hb dX1_turn_10 rfl (lv_at hl 1 rfl) ?_
  refine va_get (D := (dC, dI)) (ci := 1) (v := .ref r3) (C := RX1) (T := TX1) (N := 5) hx hb hts (in_X1_turn_1) hown hK hP 0 rfl rfl 3 (by decide) (hts (.fieldLink RX1 22 "BraidWords" "spare" "LBraidWords$Row;") (List.mem_of_getElem? (i := 1) rfl)) (fun _ h9 => h9) rfl dX1_turn_11 ?_
  refine g_MVv (As := []) (rest := []) ⟨hx, hb, hml, hown, hts⟩ (mt_X0_clear l dC dI cA s.heap.size r3 a3 n3 f3) (cwV 0 hts gX1_turn_X0_clear rfl rfl rfl hdX0_clear ⟨Nat.le_of_ble_eq_true rfl, Nat.le_of_ble_eq_true rfl⟩) hP hK hD hS hA [3, 4] (by decide) rfl (va_recv hK hP (ci := 0) (q0 := 3) rfl rfl) rfl hl.1 rfl (Nat.le_of_ble_eq_true rfl) dX1_turn_14 (Nat.zero_le _) (Nat.zero_le _) (fun u9 => [(x0, .inr (1, [.ref r0, .ref r1, .ref r2, .ref r3, .int (nI rn)])), (r1, .inr (0, [.ref a1, .int (nI L.length)])), (a1, .inl (cA, (100, .inl f))), (r3, .inr (0, [.ref a3, .int (nI (([] : List Int32).length))])), (a3, .inl (cA, (100, .inl f3)))]) (fun _ => rfl) (fun _ => rfl) (fun u H locs hw_1 hP hD hS => ?_)
  have hw_1 : True := hw_1
  have hP : va_P (dC, dI) vwCl [(x0, .inr (1, [.ref r0, .ref r1, .ref r2, .ref r3, .int (nI rn)])), (r1, .inr (0, [.ref a1, .int (nI L.length)])), (a1, .inl (cA, (100, .inl f))), (r3, .inr (0, [.ref a3, .int (nI (([] : List Int32).length))])), (a3, .inl (cA, (100, .inl f3)))] H := hP
  have hD : va_D A [(x0, .inr (1, [.ref r0, .ref r1, .ref r2, .ref r3, .int (nI rn)])), (r1, .inr (0, [.ref a1, .int (nI L.length)])), (a1, .inl (cA, (100, .inl f))), (r3, .inr (0, [.ref a3, .int (nI (([] : List Int32).length))])), (a3, .inl (cA, (100, .inl f3)))] := hD
  refine lv_aload_n hx hb dX1_turn_17 rfl (lv_at hl 1 rfl) ?_
  refine va_get (D := (dC, dI)) (ci := 1) (v := .ref r3) (C := RX1) (T := TX1) (N := 5) hx hb hts (in_X1_turn_1) hown hK hP 0 rfl rfl 3 (by decide) (hts (.fieldLink RX1 22 "BraidWords" "spare" "LBraidWords$Row;") (List.mem_of_getElem? (i := 1) rfl)) (fun _ h9 => h9) rfl dX1_turn_18 ?_
  refine lv_aload_n hx hb dX1_turn_21 rfl (lv_at hl 0 rfl) ?_
  refine g_MVv (As := [.ref r1]) (rest := []) ⟨hx, hb, hml, hown, hts⟩ (mt_X0_addTurnedRound l dC dI cA H.size r3 a3 r1 a1 [] f3 L f RI_nil hR (by first | omega | (simp only [List.length_append, List.length_cons, List.length_nil, List.length_set, turnL_len]; omega))) (cwV 1 hts gX1_turn_X0_addTurnedRound rfl rfl rfl hdX0_addTurnedRound ⟨Nat.le_of_ble_eq_true rfl, Nat.le_of_ble_eq_true rfl⟩) hP hK hD hS hA [3, 4, 1, 2] (by decide) rfl (va_recv hK hP (ci := 0) (q0 := 3) rfl rfl) rfl hl.1 rfl (Nat.le_of_ble_eq_true rfl) dX1_turn_22 (Nat.zero_le _) (Nat.zero_le _) (fun u9 => [(x0, .inr (1, [.ref r0, .ref r1, .ref r2, .ref r3, .int (nI rn)])), (r1, .inr (0, [.ref a1, .int (nI L.length)])), (a1, .inl (cA, (100, .inl f))), (r3, .inr (0, [.ref a3, .int (nI (([] ++ turnL L).length))])), (a3, .inl (cA, (100, .inl u9)))]) (fun _ => rfl) (fun _ => rfl) (fun u H locs hw_3 hP hD hS => ?_)
  obtain ⟨f3_2, rfl⟩ : ∃ z, z = u := ⟨_, rfl⟩
  have hw_3 : RI ([] ++ turnL L) f3_2 := hw_3
  have hP : va_P (dC, dI) vwCl [(x0, .inr (1, [.ref r0, .ref r1, .ref r2, .ref r3, .int (nI rn)])), (r1, .inr (0, [.ref a1, .int (nI L.length)])), (a1, .inl (cA, (100, .inl f))), (r3, .inr (0, [.ref a3, .int (nI (([] ++ turnL L).length))])), (a3, .inl (cA, (100, .inl f3_2)))] H := hP
  have hD : va_D A [(x0, .inr (1, [.ref r0, .ref r1, .ref r2, .ref r3, .int (nI rn)])), (r1, .inr (0, [.ref a1, .int (nI L.length)])), (a1, .inl (cA, (100, .inl f))), (r3, .inr (0, [.ref a3, .int (nI (([] ++ turnL L).length))])), (a3, .inl (cA, (100, .inl f3_2)))] := hD
  refine lv_aload_n hx hb dX1_turn_25 rfl (lv_at hl 0 rfl) ?_
  refine lv_aload_n hx hb dX1_turn_26 rfl (lv_at hl 1 rfl) ?_
  refine va_get (D := (dC, dI)) (ci := 1) (v := .ref r3) (C := RX1) (T := TX1) (N := 5) hx hb hts (in_X1_turn_1) hown hK hP 0 rfl rfl 3 (by decide) (hts (.fieldLink RX1 22 "BraidWords" "spare" "LBraidWords$Row;") (List.mem_of_getElem? (i := 1) rfl)) (fun _ h9 => h9) rfl dX1_turn_27 ?_
  refine g_MVv (As := [.ref r3]) (rest := []) ⟨hx, hb, hml, hown, hts⟩ (mt_X0_copy l dC dI cA H.size r1 a1 r3 a3 (nI L.length) f ([] ++ turnL L) f3_2 hw_3) (cwV 1 hts gX1_turn_X0_copy rfl rfl rfl hdX0_copy ⟨Nat.le_of_ble_eq_true rfl, Nat.le_of_ble_eq_true rfl⟩) hP hK hD hS hA [1, 2, 3, 4] (by decide) rfl (va_recv hK hP (ci := 0) (q0 := 1) rfl rfl) rfl hl.1 rfl (Nat.le_of_ble_eq_true rfl) dX1_turn_30 (Nat.zero_le _) (Nat.zero_le _) (fun u9 => [(x0, .inr (1, [.ref r0, .ref r1, .ref r2, .ref r3, .int (nI rn)])), (r1, .inr (0, [.ref a1, .int (nI ([] ++ turnL L).length)])), (a1, .inl (cA, (100, .inl u9))), (r3, .inr (0, [.ref a3, .int (nI ([] ++ turnL L).length)])), (a3, .inl (cA, (100, .inl f3_2)))]) (fun _ => rfl) (fun _ => rfl) (fun u H locs hw_5 hP hD hS => ?_)
  obtain ⟨f3_4, rfl⟩ : ∃ z, z = u := ⟨_, rfl⟩
  have hw_5 : RI ([] ++ turnL L) f3_4 := hw_5
  have hP : va_P (dC, dI) vwCl [(x0, .inr (1, [.ref r0, .ref r1, .ref r2, .ref r3, .int (nI rn)])), (r1, .inr (0, [.ref a1, .int (nI ([] ++ turnL L).length)])), (a1, .inl (cA, (100, .inl f3_4))), (r3, .inr (0, [.ref a3, .int (nI ([] ++ turnL L).length)])), (a3, .inl (cA, (100, .inl f3_2)))] H := hP
  have hD : va_D A [(x0, .inr (1, [.ref r0, .ref r1, .ref r2, .ref r3, .int (nI rn)])), (r1, .inr (0, [.ref a1, .int (nI ([] ++ turnL L).length)])), (a1, .inl (cA, (100, .inl f3_4))), (r3, .inr (0, [.ref a3, .int (nI ([] ++ turnL L).length)])), (a3, .inl (cA, (100, .inl f3_2)))] := hD
  refine lv_aload_n hx hb dX1_turn_33 rfl (lv_at hl 0 rfl) ?_
  refine g_RVi (As := []) (rest := []) ⟨hx, hb, hml, hown, hts⟩ (mt_X0_size l dC dI cA H.size r1 a1 (nI ([] ++ turnL L).length) f3_4) (cwV 0 hts gX1_turn_X0_size rfl rfl rfl hdX0_size ⟨Nat.le_of_ble_eq_true rfl, Nat.le_of_ble_eq_true rfl⟩) hP hK hD [1, 2] (by decide) rfl (va_recv hK hP (ci := 0) (q0 := 1) rfl rfl) rfl hl.1 rfl (Nat.le_of_ble_eq_true rfl) dX1_turn_34 (Nat.zero_le _) (Nat.zero_le _) ?_
  exact g_endMi hx hb hr hlocks hP hS dX1_turn_37 (f3_4, f3_2) rfl rfl hw_5

abbrev mt_X1_join1_rm : Room := { frames := 2, cells := 0, slots := 0, locals := 44 }
set_option maxHeartbeats 4000000 in
set_option maxRecDepth 100000 in
/-- join -/
theorem mt_X1_join1 (l : Launch) (dC : Nat → ClassId) (dI : Nat → Nat → Nat) (cA : ClassId) (sz : Nat) (x0 : Nat) (r0 : Nat) (r1 : Nat) (r2 : Nat) (r3 : Nat) (rn : Nat) (a1 : Nat) (a0 : Nat) (L : List Int32) (f : Nat → Int32) (M : List Int32) (f9 : Nat → Int32) (hR : RI L f) (hR9 : RI M f9) (hk : L.length + M.length ≤ 30) : Met l yX1_join wsX1_join mt_X1_join1_rm (va_Pc [.ref x0, .int (nI 1)] (gB (dC, dI) [(cA, .int)] [(x0, .inr (1, [.ref r0, .ref r1, .ref r2, .ref r3, .int (nI rn)])), (r1, .inr (0, [.ref a1, .int (nI L.length)])), (a1, .inl (cA, (100, .inl f))), (r0, .inr (0, [.ref a0, .int (nI M.length)])), (a0, .inl (cA, (100, .inl f9)))] sz)) (gM (dC, dI) (some (.int (nI (L ++ M).length))) (fun u : (Nat → Int32) => RI (L ++ M) u) (fun u : (Nat → Int32) => [(x0, .inr (1, [.ref r0, .ref r1, .ref r2, .ref r3, .int (nI rn)])), (r1, .inr (0, [.ref a1, .int (nI ((L ++ M).length))])), (a1, .inl (cA, (100, .inl u))), (r0, .inr (0, [.ref a0, .int (nI M.length)])), (a0, .inl (cA, (100, .inl f9)))]) (va_A [(x0, .inr (1, [.ref r0, .ref r1, .ref r2, .ref r3, .int (nI rn)])), (r1, .inr (0, [.ref a1, .int (nI L.length)])), (a1, .inl (cA, (100, .inl f))), (r0, .inr (0, [.ref a0, .int (nI M.length)])), (a0, .inl (cA, (100, .inl f9)))] sz)) 0 0 (va_A [(x0, .inr (1, [.ref r0, .ref r1, .ref r2, .ref r3, .int (nI rn)])), (r1, .inr (0, [.ref a1, .int (nI L.length)])), (a1, .inl (cA, (100, .inl f))), (r0, .inr (0, [.ref a0, .int (nI M.length)])), (a0, .inl (cA, (100, .inl f9)))] sz) := by
  refine g_ofM (cc := cX1_join) (maxL := 4) (ret := (some .int)) (by decide) rfl (Nat.le_of_ble_eq_true rfl) (fun p e s m below meth c ls hx hb hr hml hts hown hlocks hP hK hl hin A hA hD hS => ?_)
  have hl : lv_has ls 4 [(0, .ref x0), (1, .int (nI 1))] := hl
  have hL := hR.1
  have hM := hR9.1
  refine lv_iload_n hx hb dX1_join_0 rfl (lv_at hl 1 rfl) ?_
  refine g_RSv (As := [.int (nI 1)]) (rest := []) ⟨hx, hb, hml, hown, hts⟩ (mt_X1_requireWord l dC dI cA s.heap.size 1 (by first | omega | (simp only [List.length_append, List.length_cons, List.length_nil, List.length_set, turnL_len]; omega))) (va_cwS 1 hts gX1_join_X1_requireWord rfl rfl rfl hdX1_requireWord ⟨Nat.le_of_ble_eq_true rfl, Nat.le_of_ble_eq_true rfl⟩) hP hK hD [] (by decide) rfl rfl hl.1 rfl (Nat.le_of_ble_eq_true rfl) dX1_join_1 (Nat.zero_le _) (Nat.zero_le _) ?_
  refine lv_aload_n hx hb dX1_join_4 rfl (lv_at hl 0 rfl) ?_
  refine lv_iload_n hx hb dX1_join_5 rfl (lv_at hl 1 rfl) ?_
  refine g_RVr (As := [.int (nI 1)]) (rest := []) ⟨hx, hb, hml, hown, hts⟩ (mt_X1_rowOf1 l dC dI cA s.heap.size x0 r0 r1 r2 r3 (nI rn)) (cwV 1 hts gX1_join_X1_rowOf rfl rfl rfl hdX1_rowOf ⟨Nat.le_of_ble_eq_true rfl, Nat.le_of_ble_eq_true rfl⟩) hP hK hD [0] (by decide) rfl (va_recv hK hP (ci := 1) (q0 := 0) rfl rfl) rfl hl.1 rfl (Nat.le_of_ble_eq_true rfl) dX1_join_6 (Nat.zero_le _) (Nat.zero_le _) ?_
  refine lv_astore_n (lv' := [(2, .ref r1), (0, .ref x0), (1, .int (nI 1))]) hx hb dX1_join_9 rfl hl (by decide) rfl (fun ls hl => ?_)
  refine lv_aload_n hx hb dX1_join_10 rfl (lv_at hl 1 rfl) ?_
  refine lv_iconst (v := 1) hx hb dX1_join_11 (by decide) ?_
  refine lv_iload_n hx hb dX1_join_12 rfl (lv_at hl 2 rfl) ?_
  refine lv_isub hx hb dX1_join_13 ?_
  rw [show (1 : Int32) - nI 1 = nI 0 from by decide]
  refine g_RVr (As := [.int (nI 0)]) (rest := []) ⟨hx, hb, hml, hown, hts⟩ (mt_X1_rowOf0 l dC dI cA s.heap.size x0 r0 r1 r2 r3 (nI rn)) (cwV 1 hts gX1_join_X1_rowOf rfl rfl rfl hdX1_rowOf ⟨Nat.le_of_ble_eq_true rfl, Nat.le_of_ble_eq_true rfl⟩) hP hK hD [0] (by decide) rfl (va_recv hK hP (ci := 1) (q0 := 0) rfl rfl) rfl hl.1 rfl (Nat.le_of_ble_eq_true rfl) dX1_join_14 (Nat.zero_le _) (Nat.zero_le _) ?_
  refine lv_astore_n (lv' := [(3, .ref r0), (2, .ref r1), (0, .ref x0), (1, .int (nI 1))]) hx hb dX1_join_17 rfl hl (by decide) rfl (fun ls hl => ?_)
  refine lv_aload_n hx hb dX1_join_18 rfl (lv_at hl 1 rfl) ?_
  refine lv_aload_n hx hb dX1_join_19 rfl (lv_at hl 0 rfl) ?_
  refine g_RVi (As := []) (rest := [.ref r1]) ⟨hx, hb, hml, hown, hts⟩ (mt_X0_size l dC dI cA s.heap.size r0 a0 (nI M.length) f9) (cwV 0 hts gX1_join_X0_size rfl rfl rfl hdX0_size ⟨Nat.le_of_ble_eq_true rfl, Nat.le_of_ble_eq_true rfl⟩) hP hK hD [3, 4] (by decide) rfl (va_recv hK hP (ci := 0) (q0 := 3) rfl rfl) rfl hl.1 rfl (Nat.le_of_ble_eq_true rfl) dX1_join_20 (Nat.zero_le _) (Nat.zero_le _) ?_
  refine g_RSv (As := [.ref r1, .int (nI M.length)]) (rest := []) ⟨hx, hb, hml, hown, hts⟩ (mt_X1_requireRoom l dC dI cA s.heap.size r1 a1 L f (nI M.length) (room_ok L.length M.length (by omega))) (va_cwS 2 hts gX1_join_X1_requireRoom rfl rfl rfl hdX1_requireRoom ⟨Nat.le_of_ble_eq_true rfl, Nat.le_of_ble_eq_true rfl⟩) hP hK hD [1, 2] (by decide) rfl rfl hl.1 rfl (Nat.le_of_ble_eq_true rfl) dX1_join_23 (Nat.zero_le _) (Nat.zero_le _) ?_
  refine lv_aload_n hx hb dX1_join_26 rfl (lv_at hl 1 rfl) ?_
  refine lv_aload_n hx hb dX1_join_27 rfl (lv_at hl 0 rfl) ?_
  refine g_MVv (As := [.ref r0]) (rest := []) ⟨hx, hb, hml, hown, hts⟩ (mt_X0_addAll l dC dI cA s.heap.size r1 a1 r0 a0 L f M f9 hR hR9 (by first | omega | (simp only [List.length_append, List.length_cons, List.length_nil, List.length_set, turnL_len]; omega))) (cwV 1 hts gX1_join_X0_addAll rfl rfl rfl hdX0_addAll ⟨Nat.le_of_ble_eq_true rfl, Nat.le_of_ble_eq_true rfl⟩) hP hK hD hS hA [1, 2, 3, 4] (by decide) rfl (va_recv hK hP (ci := 0) (q0 := 1) rfl rfl) rfl hl.1 rfl (Nat.le_of_ble_eq_true rfl) dX1_join_28 (Nat.zero_le _) (Nat.zero_le _) (fun u9 => [(x0, .inr (1, [.ref r0, .ref r1, .ref r2, .ref r3, .int (nI rn)])), (r1, .inr (0, [.ref a1, .int (nI ((L ++ M).length))])), (a1, .inl (cA, (100, .inl u9))), (r0, .inr (0, [.ref a0, .int (nI M.length)])), (a0, .inl (cA, (100, .inl f9)))]) (fun _ => rfl) (fun _ => rfl) (fun u H locs hw_2 hP hD hS => ?_)
  obtain ⟨f3_1, rfl⟩ : ∃ z, z = u := ⟨_, rfl⟩
  have hw_2 : RI (L ++ M) f3_1 := hw_2
  have hP : va_P (dC, dI) vwCl [(x0, .inr (1, [.ref r0, .ref r1, .ref r2, .ref r3, .int (nI rn)])), (r1, .inr (0, [.ref a1, .int (nI ((L ++ M).length))])), (a1, .inl (cA, (100, .inl f3_1))), (r0, .inr (0, [.ref a0, .int (nI M.length)])), (a0, .inl (cA, (100, .inl f9)))] H := hP
  have hD : va_D A [(x0, .inr (1, [.ref r0, .ref r1, .ref r2, .ref r3, .int (nI rn)])), (r1, .inr (0, [.ref a1, .int (nI ((L ++ M).length))])), (a1, .inl (cA, (100, .inl f3_1))), (r0, .inr (0, [.ref a0, .int (nI M.length)])), (a0, .inl (cA, (100, .inl f9)))] := hD
  refine lv_aload_n hx hb dX1_join_31 rfl (lv_at hl 1 rfl) ?_
  refine g_RVi (As := []) (rest := []) ⟨hx, hb, hml, hown, hts⟩ (mt_X0_size l dC dI cA H.size r1 a1 (nI ((L ++ M).length)) f3_1) (cwV 0 hts gX1_join_X0_size rfl rfl rfl hdX0_size ⟨Nat.le_of_ble_eq_true rfl, Nat.le_of_ble_eq_true rfl⟩) hP hK hD [1, 2] (by decide) rfl (va_recv hK hP (ci := 0) (q0 := 1) rfl rfl) rfl hl.1 rfl (Nat.le_of_ble_eq_true rfl) dX1_join_32 (Nat.zero_le _) (Nat.zero_le _) ?_
  exact g_endMi hx hb hr hlocks hP hS dX1_join_35 f3_1 rfl rfl hw_2

abbrev mt_X1_swap1_rm : Room := { frames := 2, cells := 0, slots := 0, locals := 41 }
set_option maxHeartbeats 4000000 in
set_option maxRecDepth 100000 in
/-- swap -/
theorem mt_X1_swap1 (l : Launch) (dC : Nat → ClassId) (dI : Nat → Nat → Nat) (cA : ClassId) (sz : Nat) (x0 : Nat) (r0 : Nat) (r1 : Nat) (r2 : Nat) (r3 : Nat) (rn : Nat) (a1 : Nat) (L : List Int32) (f : Nat → Int32) (k : Nat) (hR : RI L f) (hk : k + 1 < L.length) (hap : ¬ abI (abI (atL L k) - abI (atL L (k + 1))) < 2) : Met l yX1_swap wsX1_swap mt_X1_swap1_rm (va_Pc [.ref x0, .int (nI 1), .int (nI k)] (gB (dC, dI) [(cA, .int)] [(x0, .inr (1, [.ref r0, .ref r1, .ref r2, .ref r3, .int (nI rn)])), (r1, .inr (0, [.ref a1, .int (nI L.length)])), (a1, .inl (cA, (100, .inl f)))] sz)) (gM (dC, dI) (some (.int (atL L (k + 1)))) (fun u : (Nat → Int32) => RI ((L.set k (atL L (k + 1))).set (k + 1) (atL L k)) u) (fun u : (Nat → Int32) => [(x0, .inr (1, [.ref r0, .ref r1, .ref r2, .ref r3, .int (nI rn)])), (r1, .inr (0, [.ref a1, .int (nI (((L.set k (atL L (k + 1))).set (k + 1) (atL L k)).length))])), (a1, .inl (cA, (100, .inl u)))]) (va_A [(x0, .inr (1, [.ref r0, .ref r1, .ref r2, .ref r3, .int (nI rn)])), (r1, .inr (0, [.ref a1, .int (nI L.length)])), (a1, .inl (cA, (100, .inl f)))] sz)) 0 0 (va_A [(x0, .inr (1, [.ref r0, .ref r1, .ref r2, .ref r3, .int (nI rn)])), (r1, .inr (0, [.ref a1, .int (nI L.length)])), (a1, .inl (cA, (100, .inl f)))] sz) := by
  refine g_ofM (cc := cX1_swap) (maxL := 6) (ret := (some .int)) (by decide) rfl (Nat.le_of_ble_eq_true rfl) (fun p e s m below meth c ls hx hb hr hml hts hown hlocks hP hK hl hin A hA hD hS => ?_)
  have hl : lv_has ls 6 [(0, .ref x0), (1, .int (nI 1)), (2, .int (nI k))] := hl
  have hL := hR.1
  refine lv_iload_n hx hb dX1_swap_0 rfl (lv_at hl 1 rfl) ?_
  refine g_RSv (As := [.int (nI 1)]) (rest := []) ⟨hx, hb, hml, hown, hts⟩ (mt_X1_requireWord l dC dI cA s.heap.size 1 (by first | omega | (simp only [List.length_append, List.length_cons, List.length_nil, List.length_set, turnL_len]; omega))) (va_cwS 1 hts gX1_swap_X1_requireWord rfl rfl rfl hdX1_requireWord ⟨Nat.le_of_ble_eq_true rfl, Nat.le_of_ble_eq_true rfl⟩) hP hK hD [] (by decide) rfl rfl hl.1 rfl (Nat.le_of_ble_eq_true rfl) dX1_swap_1 (Nat.zero_le _) (Nat.zero_le _) ?_
  refine lv_aload_n hx hb dX1_swap_4 rfl (lv_at hl 0 rfl) ?_
  refine lv_iload_n hx hb dX1_swap_5 rfl (lv_at hl 1 rfl) ?_
  refine g_RVr (As := [.int (nI 1)]) (rest := []) ⟨hx, hb, hml, hown, hts⟩ (mt_X1_rowOf1 l dC dI cA s.heap.size x0 r0 r1 r2 r3 (nI rn)) (cwV 1 hts gX1_swap_X1_rowOf rfl rfl rfl hdX1_rowOf ⟨Nat.le_of_ble_eq_true rfl, Nat.le_of_ble_eq_true rfl⟩) hP hK hD [0] (by decide) rfl (va_recv hK hP (ci := 1) (q0 := 0) rfl rfl) rfl hl.1 rfl (Nat.le_of_ble_eq_true rfl) dX1_swap_6 (Nat.zero_le _) (Nat.zero_le _) ?_
  refine lv_astore_n (lv' := [(3, .ref r1), (0, .ref x0), (1, .int (nI 1)), (2, .int (nI k))]) hx hb dX1_swap_9 rfl hl (by decide) rfl (fun ls hl => ?_)
  refine lv_iload_n hx hb dX1_swap_10 rfl (lv_at hl 3 rfl) ?_
  refine lv_aload_n hx hb dX1_swap_11 rfl (lv_at hl 0 rfl) ?_
  refine g_RVi (As := []) (rest := [.int (nI k)]) ⟨hx, hb, hml, hown, hts⟩ (mt_X0_size l dC dI cA s.heap.size r1 a1 (nI L.length) f) (cwV 0 hts gX1_swap_X0_size rfl rfl rfl hdX0_size ⟨Nat.le_of_ble_eq_true rfl, Nat.le_of_ble_eq_true rfl⟩) hP hK hD [1, 2] (by decide) rfl (va_recv hK hP (ci := 0) (q0 := 1) rfl rfl) rfl hl.1 rfl (Nat.le_of_ble_eq_true rfl) dX1_swap_12 (Nat.zero_le _) (Nat.zero_le _) ?_
  refine lv_iconst (v := 1) hx hb dX1_swap_15 (by decide) ?_
  refine lv_isub hx hb dX1_swap_16 ?_
  rw [plI_sub L.length]
  refine g_RSv (As := [.int (nI k), .int (plI L.length)]) (rest := []) ⟨hx, hb, hml, hown, hts⟩ (mt_X1_requirePlace l dC dI cA s.heap.size (nI k) (plI L.length) (nI_pos (by omega)) (lt_plI hk (by omega))) (va_cwS 2 hts gX1_swap_X1_requirePlace rfl rfl rfl hdX1_requirePlace ⟨Nat.le_of_ble_eq_true rfl, Nat.le_of_ble_eq_true rfl⟩) hP hK hD [] (by decide) rfl rfl hl.1 rfl (Nat.le_of_ble_eq_true rfl) dX1_swap_17 (Nat.zero_le _) (Nat.zero_le _) ?_
  refine lv_aload_n hx hb dX1_swap_20 rfl (lv_at hl 0 rfl) ?_
  refine lv_iload_n hx hb dX1_swap_21 rfl (lv_at hl 3 rfl) ?_
  refine g_RVi (As := [.int (nI k)]) (rest := []) ⟨hx, hb, hml, hown, hts⟩ (mt_X0_at l dC dI cA s.heap.size r1 a1 L f k hR (by first | omega | (simp only [List.length_append, List.length_cons, List.length_nil, List.length_set, turnL_len]; omega))) (cwV 1 hts gX1_swap_X0_at rfl rfl rfl hdX0_at ⟨Nat.le_of_ble_eq_true rfl, Nat.le_of_ble_eq_true rfl⟩) hP hK hD [1, 2] (by decide) rfl (va_recv hK hP (ci := 0) (q0 := 1) rfl rfl) rfl hl.1 rfl (Nat.le_of_ble_eq_true rfl) dX1_swap_22 (Nat.zero_le _) (Nat.zero_le _) ?_
  refine lv_istore (lv' := [(4, .int (atL L k)), (3, .ref r1), (0, .ref x0), (1, .int (nI 1)), (2, .int (nI k))]) hx hb dX1_swap_25 hl (by decide) rfl (fun ls hl => ?_)
  refine lv_aload_n hx hb dX1_swap_27 rfl (lv_at hl 1 rfl) ?_
  refine lv_iload_n hx hb dX1_swap_28 rfl (lv_at hl 4 rfl) ?_
  refine lv_iconst (v := 1) hx hb dX1_swap_29 (by decide) ?_
  refine lv_iadd hx hb dX1_swap_30 ?_
  rw [show (nI k) + 1 = nI (k + 1) from nI_add k 1]
  refine g_RVi (As := [.int (nI (k + 1))]) (rest := []) ⟨hx, hb, hml, hown, hts⟩ (mt_X0_at l dC dI cA s.heap.size r1 a1 L f (k + 1) hR (by first | omega | (simp only [List.length_append, List.length_cons, List.length_nil, List.length_set, turnL_len]; omega))) (cwV 1 hts gX1_swap_X0_at rfl rfl rfl hdX0_at ⟨Nat.le_of_ble_eq_true rfl, Nat.le_of_ble_eq_true rfl⟩) hP hK hD [1, 2] (by decide) rfl (va_recv hK hP (ci := 0) (q0 := 1) rfl rfl) rfl hl.1 rfl (Nat.le_of_ble_eq_true rfl) dX1_swap_31 (Nat.zero_le _) (Nat.zero_le _) ?_
  refine lv_istore (lv' := [(5, .int (atL L (k + 1))), (4, .int (atL L k)), (3, .ref r1), (0, .ref x0), (1, .int (nI 1)), (2, .int (nI k))]) hx hb dX1_swap_34 hl (by decide) rfl (fun ls hl => ?_)
  refine lv_iload hx hb dX1_swap_36 (lv_at hl 1 rfl) ?_
  refine lv_iload hx hb dX1_swap_38 (lv_at hl 0 rfl) ?_
  refine g_RSi (As := [.int (atL L k), .int (atL L (k + 1))]) (rest := []) ⟨hx, hb, hml, hown, hts⟩ (mt_X1_heightsApart l dC dI cA s.heap.size (atL L k) (atL L (k + 1))) (va_cwS 2 hts gX1_swap_X1_heightsApart rfl rfl rfl hdX1_heightsApart ⟨Nat.le_of_ble_eq_true rfl, Nat.le_of_ble_eq_true rfl⟩) hP hK hD [] (by decide) rfl rfl hl.1 rfl (Nat.le_of_ble_eq_true rfl) dX1_swap_40 (Nat.zero_le _) (Nat.zero_le _) ?_
  refine lv_iconst (v := 2) hx hb dX1_swap_43 (by decide) ?_
  refine lv_icmp_ge (tgt := 57) hx hb dX1_swap_44 (by decide) (fun c44 => ?_) (fun c44 => ?_)
  · refine lv_aload_n hx hb dX1_swap_57 rfl (lv_at hl 2 rfl) ?_
    refine lv_iload_n hx hb dX1_swap_58 rfl (lv_at hl 5 rfl) ?_
    refine lv_iload hx hb dX1_swap_59 (lv_at hl 0 rfl) ?_
    refine g_MVv (As := [.int (nI k), .int (atL L (k + 1))]) (rest := []) ⟨hx, hb, hml, hown, hts⟩ (mt_X0_set l dC dI cA s.heap.size r1 a1 L f k (atL L (k + 1)) hR (by first | omega | (simp only [List.length_append, List.length_cons, List.length_nil, List.length_set, turnL_len]; omega))) (cwV 2 hts gX1_swap_X0_set rfl rfl rfl hdX0_set ⟨Nat.le_of_ble_eq_true rfl, Nat.le_of_ble_eq_true rfl⟩) hP hK hD hS hA [1, 2] (by decide) rfl (va_recv hK hP (ci := 0) (q0 := 1) rfl rfl) rfl hl.1 rfl (Nat.le_of_ble_eq_true rfl) dX1_swap_61 (Nat.zero_le _) (Nat.zero_le _) (fun u9 => [(x0, .inr (1, [.ref r0, .ref r1, .ref r2, .ref r3, .int (nI rn)])), (r1, .inr (0, [.ref a1, .int (nI ((L.set k (atL L (k + 1))).length))])), (a1, .inl (cA, (100, .inl u9)))]) (fun _ => rfl) (fun _ => rfl) (fun u H locs hw_2 hP hD hS => ?_)
    obtain ⟨f1_1, rfl⟩ : ∃ z, z = u := ⟨_, rfl⟩
    have hw_2 : RI (L.set k (atL L (k + 1))) f1_1 := hw_2
    have hP : va_P (dC, dI) vwCl [(x0, .inr (1, [.ref r0, .ref r1, .ref r2, .ref r3, .int (nI rn)])), (r1, .inr (0, [.ref a1, .int (nI ((L.set k (atL L (k + 1))).length))])), (a1, .inl (cA, (100, .inl f1_1)))] H := hP
    have hD : va_D A [(x0, .inr (1, [.ref r0, .ref r1, .ref r2, .ref r3, .int (nI rn)])), (r1, .inr (0, [.ref a1, .int (nI ((L.set k (atL L (k + 1))).length))])), (a1, .inl (cA, (100, .inl f1_1)))] := hD
    refine lv_aload_n hx hb dX1_swap_64 rfl (lv_at hl 2 rfl) ?_
    refine lv_iload_n hx hb dX1_swap_65 rfl (lv_at hl 5 rfl) ?_
    refine lv_iconst (v := 1) hx hb dX1_swap_66 (by decide) ?_
    refine lv_iadd hx hb dX1_swap_67 ?_
    rw [show (nI k) + 1 = nI (k + 1) from nI_add k 1]
    refine lv_iload hx hb dX1_swap_68 (lv_at hl 1 rfl) ?_
    refine g_MVv (As := [.int (nI (k + 1)), .int (atL L k)]) (rest := []) ⟨hx, hb, hml, hown, hts⟩ (mt_X0_set l dC dI cA H.size r1 a1 (L.set k (atL L (k + 1))) f1_1 (k + 1) (atL L k) hw_2 (by first | omega | (simp only [List.length_append, List.length_cons, List.length_nil, List.length_set, turnL_len]; omega))) (cwV 2 hts gX1_swap_X0_set rfl rfl rfl hdX0_set ⟨Nat.le_of_ble_eq_true rfl, Nat.le_of_ble_eq_true rfl⟩) hP hK hD hS hA [1, 2] (by decide) rfl (va_recv hK hP (ci := 0) (q0 := 1) rfl rfl) rfl hl.1 rfl (Nat.le_of_ble_eq_true rfl) dX1_swap_70 (Nat.zero_le _) (Nat.zero_le _) (fun u9 => [(x0, .inr (1, [.ref r0, .ref r1, .ref r2, .ref r3, .int (nI rn)])), (r1, .inr (0, [.ref a1, .int (nI (((L.set k (atL L (k + 1))).set (k + 1) (atL L k)).length))])), (a1, .inl (cA, (100, .inl u9)))]) (fun _ => rfl) (fun _ => rfl) (fun u H locs hw_4 hP hD hS => ?_)
    obtain ⟨f1_3, rfl⟩ : ∃ z, z = u := ⟨_, rfl⟩
    have hw_4 : RI ((L.set k (atL L (k + 1))).set (k + 1) (atL L k)) f1_3 := hw_4
    have hP : va_P (dC, dI) vwCl [(x0, .inr (1, [.ref r0, .ref r1, .ref r2, .ref r3, .int (nI rn)])), (r1, .inr (0, [.ref a1, .int (nI (((L.set k (atL L (k + 1))).set (k + 1) (atL L k)).length))])), (a1, .inl (cA, (100, .inl f1_3)))] H := hP
    have hD : va_D A [(x0, .inr (1, [.ref r0, .ref r1, .ref r2, .ref r3, .int (nI rn)])), (r1, .inr (0, [.ref a1, .int (nI (((L.set k (atL L (k + 1))).set (k + 1) (atL L k)).length))])), (a1, .inl (cA, (100, .inl f1_3)))] := hD
    refine lv_iload hx hb dX1_swap_73 (lv_at hl 0 rfl) ?_
    exact g_endMi hx hb hr hlocks hP hS dX1_swap_75 f1_3 rfl rfl hw_4
  · exact absurd (Int32.not_le.mp c44) hap

abbrev mt_X1_about1_rm : Room := { frames := 2, cells := 0, slots := 0, locals := 41 }
set_option maxHeartbeats 4000000 in
set_option maxRecDepth 100000 in
/-- about -/
theorem mt_X1_about1 (l : Launch) (dC : Nat → ClassId) (dI : Nat → Nat → Nat) (cA : ClassId) (sz : Nat) (x0 : Nat) (r0 : Nat) (r1 : Nat) (r2 : Nat) (r3 : Nat) (rn : Nat) (a1 : Nat) (L : List Int32) (f : Nat → Int32) (k : Nat) (hR : RI L f) (hk : k + 2 < L.length) (ha1 : atL L (k + 2) = atL L k) (ha2 : sgI (atL L (k + 1)) = sgI (atL L k)) (ha3 : abI (abI (atL L (k + 1)) - abI (atL L k)) = 1) : Met l yX1_about wsX1_about mt_X1_about1_rm (va_Pc [.ref x0, .int (nI 1), .int (nI k)] (gB (dC, dI) [(cA, .int)] [(x0, .inr (1, [.ref r0, .ref r1, .ref r2, .ref r3, .int (nI rn)])), (r1, .inr (0, [.ref a1, .int (nI L.length)])), (a1, .inl (cA, (100, .inl f)))] sz)) (gM (dC, dI) (some (.int (atL L (k + 1)))) (fun u : (Nat → Int32) => RI (((L.set k (atL L (k + 1))).set (k + 1) (atL L k)).set (k + 2) (atL L (k + 1))) u) (fun u : (Nat → Int32) => [(x0, .inr (1, [.ref r0, .ref r1, .ref r2, .ref r3, .int (nI rn)])), (r1, .inr (0, [.ref a1, .int (nI ((((L.set k (atL L (k + 1))).set (k + 1) (atL L k)).set (k + 2) (atL L (k + 1))).length))])), (a1, .inl (cA, (100, .inl u)))]) (va_A [(x0, .inr (1, [.ref r0, .ref r1, .ref r2, .ref r3, .int (nI rn)])), (r1, .inr (0, [.ref a1, .int (nI L.length)])), (a1, .inl (cA, (100, .inl f)))] sz)) 0 0 (va_A [(x0, .inr (1, [.ref r0, .ref r1, .ref r2, .ref r3, .int (nI rn)])), (r1, .inr (0, [.ref a1, .int (nI L.length)])), (a1, .inl (cA, (100, .inl f)))] sz) := by
  refine g_ofM (cc := cX1_about) (maxL := 6) (ret := (some .int)) (by decide) rfl (Nat.le_of_ble_eq_true rfl) (fun p e s m below meth c ls hx hb hr hml hts hown hlocks hP hK hl hin A hA hD hS => ?_)
  have hl : lv_has ls 6 [(0, .ref x0), (1, .int (nI 1)), (2, .int (nI k))] := hl
  have hL := hR.1
  refine lv_iload_n hx hb dX1_about_0 rfl (lv_at hl 1 rfl) ?_
  refine g_RSv (As := [.int (nI 1)]) (rest := []) ⟨hx, hb, hml, hown, hts⟩ (mt_X1_requireWord l dC dI cA s.heap.size 1 (by first | omega | (simp only [List.length_append, List.length_cons, List.length_nil, List.length_set, turnL_len]; omega))) (va_cwS 1 hts gX1_about_X1_requireWord rfl rfl rfl hdX1_requireWord ⟨Nat.le_of_ble_eq_true rfl, Nat.le_of_ble_eq_true rfl⟩) hP hK hD [] (by decide) rfl rfl hl.1 rfl (Nat.le_of_ble_eq_true rfl) dX1_about_1 (Nat.zero_le _) (Nat.zero_le _) ?_
  refine lv_aload_n hx hb dX1_about_4 rfl (lv_at hl 0 rfl) ?_
  refine lv_iload_n hx hb dX1_about_5 rfl (lv_at hl 1 rfl) ?_
  refine g_RVr (As := [.int (nI 1)]) (rest := []) ⟨hx, hb, hml, hown, hts⟩ (mt_X1_rowOf1 l dC dI cA s.heap.size x0 r0 r1 r2 r3 (nI rn)) (cwV 1 hts gX1_about_X1_rowOf rfl rfl rfl hdX1_rowOf ⟨Nat.le_of_ble_eq_true rfl, Nat.le_of_ble_eq_true rfl⟩) hP hK hD [0] (by decide) rfl (va_recv hK hP (ci := 1) (q0 := 0) rfl rfl) rfl hl.1 rfl (Nat.le_of_ble_eq_true rfl) dX1_about_6 (Nat.zero_le _) (Nat.zero_le _) ?_
  refine lv_astore_n (lv' := [(3, .ref r1), (0, .ref x0), (1, .int (nI 1)), (2, .int (nI k))]) hx hb dX1_about_9 rfl hl (by decide) rfl (fun ls hl => ?_)
  refine lv_iload_n hx hb dX1_about_10 rfl (lv_at hl 3 rfl) ?_
  refine lv_aload_n hx hb dX1_about_11 rfl (lv_at hl 0 rfl) ?_
  refine g_RVi (As := []) (rest := [.int (nI k)]) ⟨hx, hb, hml, hown, hts⟩ (mt_X0_size l dC dI cA s.heap.size r1 a1 (nI L.length) f) (cwV 0 hts gX1_about_X0_size rfl rfl rfl hdX0_size ⟨Nat.le_of_ble_eq_true rfl, Nat.le_of_ble_eq_true rfl⟩) hP hK hD [1, 2] (by decide) rfl (va_recv hK hP (ci := 0) (q0 := 1) rfl rfl) rfl hl.1 rfl (Nat.le_of_ble_eq_true rfl) dX1_about_12 (Nat.zero_le _) (Nat.zero_le _) ?_
  refine lv_iconst (v := 2) hx hb dX1_about_15 (by decide) ?_
  refine lv_isub hx hb dX1_about_16 ?_
  rw [sub2_nI (show 2 ≤ L.length by omega)]
  refine g_RSv (As := [.int (nI k), .int (nI (L.length - 2))]) (rest := []) ⟨hx, hb, hml, hown, hts⟩ (mt_X1_requirePlace l dC dI cA s.heap.size (nI k) (nI (L.length - 2)) (nI_pos (by omega)) (nI_lt (by omega) (by omega))) (va_cwS 2 hts gX1_about_X1_requirePlace rfl rfl rfl hdX1_requirePlace ⟨Nat.le_of_ble_eq_true rfl, Nat.le_of_ble_eq_true rfl⟩) hP hK hD [] (by decide) rfl rfl hl.1 rfl (Nat.le_of_ble_eq_true rfl) dX1_about_17 (Nat.zero_le _) (Nat.zero_le _) ?_
  refine lv_aload_n hx hb dX1_about_20 rfl (lv_at hl 0 rfl) ?_
  refine lv_iload_n hx hb dX1_about_21 rfl (lv_at hl 3 rfl) ?_
  refine g_RVi (As := [.int (nI k)]) (rest := []) ⟨hx, hb, hml, hown, hts⟩ (mt_X0_at l dC dI cA s.heap.size r1 a1 L f k hR (by first | omega | (simp only [List.length_append, List.length_cons, List.length_nil, List.length_set, turnL_len]; omega))) (cwV 1 hts gX1_about_X0_at rfl rfl rfl hdX0_at ⟨Nat.le_of_ble_eq_true rfl, Nat.le_of_ble_eq_true rfl⟩) hP hK hD [1, 2] (by decide) rfl (va_recv hK hP (ci := 0) (q0 := 1) rfl rfl) rfl hl.1 rfl (Nat.le_of_ble_eq_true rfl) dX1_about_22 (Nat.zero_le _) (Nat.zero_le _) ?_
  refine lv_istore (lv' := [(4, .int (atL L k)), (3, .ref r1), (0, .ref x0), (1, .int (nI 1)), (2, .int (nI k))]) hx hb dX1_about_25 hl (by decide) rfl (fun ls hl => ?_)
  refine lv_aload_n hx hb dX1_about_27 rfl (lv_at hl 1 rfl) ?_
  refine lv_iload_n hx hb dX1_about_28 rfl (lv_at hl 4 rfl) ?_
  refine lv_iconst (v := 1) hx hb dX1_about_29 (by decide) ?_
  refine lv_iadd hx hb dX1_about_30 ?_
  rw [show (nI k) + 1 = nI (k + 1) from nI_add k 1]
  refine g_RVi (As := [.int (nI (k + 1))]) (rest := []) ⟨hx, hb, hml, hown, hts⟩ (mt_X0_at l dC dI cA s.heap.size r1 a1 L f (k + 1) hR (by first | omega | (simp only [List.length_append, List.length_cons, List.length_nil, List.length_set, turnL_len]; omega))) (cwV 1 hts gX1_about_X0_at rfl rfl rfl hdX0_at ⟨Nat.le_of_ble_eq_true rfl, Nat.le_of_ble_eq_true rfl⟩) hP hK hD [1, 2] (by decide) rfl (va_recv hK hP (ci := 0) (q0 := 1) rfl rfl) rfl hl.1 rfl (Nat.le_of_ble_eq_true rfl) dX1_about_31 (Nat.zero_le _) (Nat.zero_le _) ?_
  refine lv_istore (lv' := [(5, .int (atL L (k + 1))), (4, .int (atL L k)), (3, .ref r1), (0, .ref x0), (1, .int (nI 1)), (2, .int (nI k))]) hx hb dX1_about_34 hl (by decide) rfl (fun ls hl => ?_)
  refine lv_aload_n hx hb dX1_about_36 rfl (lv_at hl 2 rfl) ?_
  refine lv_iload_n hx hb dX1_about_37 rfl (lv_at hl 5 rfl) ?_
  refine lv_iconst (v := 2) hx hb dX1_about_38 (by decide) ?_
  refine lv_iadd hx hb dX1_about_39 ?_
  rw [show (nI k) + 2 = nI (k + 2) from nI_add k 2]
  refine g_RVi (As := [.int (nI (k + 2))]) (rest := []) ⟨hx, hb, hml, hown, hts⟩ (mt_X0_at l dC dI cA s.heap.size r1 a1 L f (k + 2) hR (by first | omega | (simp only [List.length_append, List.length_cons, List.length_nil, List.length_set, turnL_len]; omega))) (cwV 1 hts gX1_about_X0_at rfl rfl rfl hdX0_at ⟨Nat.le_of_ble_eq_true rfl, Nat.le_of_ble_eq_true rfl⟩) hP hK hD [1, 2] (by decide) rfl (va_recv hK hP (ci := 0) (q0 := 1) rfl rfl) rfl hl.1 rfl (Nat.le_of_ble_eq_true rfl) dX1_about_40 (Nat.zero_le _) (Nat.zero_le _) ?_
  refine lv_iload hx hb dX1_about_43 (lv_at hl 1 rfl) ?_
  refine lv_icmp_ne (tgt := 72) hx hb dX1_about_45 (by decide) (fun c45 => ?_) (fun c45 => ?_)
  · exact absurd ha1 c45
  · refine lv_iload hx hb dX1_about_48 (lv_at hl 0 rfl) ?_
    refine g_RSi (As := [.int (atL L (k + 1))]) (rest := []) ⟨hx, hb, hml, hown, hts⟩ (mt_X1_signOf l dC dI cA s.heap.size (atL L (k + 1))) (va_cwS 1 hts gX1_about_X1_signOf rfl rfl rfl hdX1_signOf ⟨Nat.le_of_ble_eq_true rfl, Nat.le_of_ble_eq_true rfl⟩) hP hK hD [] (by decide) rfl rfl hl.1 rfl (Nat.le_of_ble_eq_true rfl) dX1_about_50 (Nat.zero_le _) (Nat.zero_le _) ?_
    refine lv_iload hx hb dX1_about_53 (lv_at hl 1 rfl) ?_
    refine g_RSi (As := [.int (atL L k)]) (rest := [.int (sgI (atL L (k + 1)))]) ⟨hx, hb, hml, hown, hts⟩ (mt_X1_signOf l dC dI cA s.heap.size (atL L k)) (va_cwS 1 hts gX1_about_X1_signOf rfl rfl rfl hdX1_signOf ⟨Nat.le_of_ble_eq_true rfl, Nat.le_of_ble_eq_true rfl⟩) hP hK hD [] (by decide) rfl rfl hl.1 rfl (Nat.le_of_ble_eq_true rfl) dX1_about_55 (Nat.zero_le _) (Nat.zero_le _) ?_
    refine lv_icmp_ne (tgt := 72) hx hb dX1_about_58 (by decide) (fun c58 => ?_) (fun c58 => ?_)
    · exact absurd ha2 c58
    · refine lv_iload hx hb dX1_about_61 (lv_at hl 0 rfl) ?_
      refine lv_iload hx hb dX1_about_63 (lv_at hl 1 rfl) ?_
      refine g_RSi (As := [.int (atL L (k + 1)), .int (atL L k)]) (rest := []) ⟨hx, hb, hml, hown, hts⟩ (mt_X1_heightsApart l dC dI cA s.heap.size (atL L (k + 1)) (atL L k)) (va_cwS 2 hts gX1_about_X1_heightsApart rfl rfl rfl hdX1_heightsApart ⟨Nat.le_of_ble_eq_true rfl, Nat.le_of_ble_eq_true rfl⟩) hP hK hD [] (by decide) rfl rfl hl.1 rfl (Nat.le_of_ble_eq_true rfl) dX1_about_65 (Nat.zero_le _) (Nat.zero_le _) ?_
      refine lv_iconst (v := 1) hx hb dX1_about_68 (by decide) ?_
      refine lv_icmp_eq (tgt := 82) hx hb dX1_about_69 (by decide) (fun c69 => ?_) (fun c69 => ?_)
      · refine lv_aload_n hx hb dX1_about_82 rfl (lv_at hl 2 rfl) ?_
        refine lv_iload_n hx hb dX1_about_83 rfl (lv_at hl 5 rfl) ?_
        refine lv_iload hx hb dX1_about_84 (lv_at hl 0 rfl) ?_
        refine g_MVv (As := [.int (nI k), .int (atL L (k + 1))]) (rest := []) ⟨hx, hb, hml, hown, hts⟩ (mt_X0_set l dC dI cA s.heap.size r1 a1 L f k (atL L (k + 1)) hR (by first | omega | (simp only [List.length_append, List.length_cons, List.length_nil, List.length_set, turnL_len]; omega))) (cwV 2 hts gX1_about_X0_set rfl rfl rfl hdX0_set ⟨Nat.le_of_ble_eq_true rfl, Nat.le_of_ble_eq_true rfl⟩) hP hK hD hS hA [1, 2] (by decide) rfl (va_recv hK hP (ci := 0) (q0 := 1) rfl rfl) rfl hl.1 rfl (Nat.le_of_ble_eq_true rfl) dX1_about_86 (Nat.zero_le _) (Nat.zero_le _) (fun u9 => [(x0, .inr (1, [.ref r0, .ref r1, .ref r2, .ref r3, .int (nI rn)])), (r1, .inr (0, [.ref a1, .int (nI ((L.set k (atL L (k + 1))).length))])), (a1, .inl (cA, (100, .inl u9)))]) (fun _ => rfl) (fun _ => rfl) (fun u H locs hw_2 hP hD hS => ?_)
        obtain ⟨f1_1, rfl⟩ : ∃ z, z = u := ⟨_, rfl⟩
        have hw_2 : RI (L.set k (atL L (k + 1))) f1_1 := hw_2
        have hP : va_P (dC, dI) vwCl [(x0, .inr (1, [.ref r0, .ref r1, .ref r2, .ref r3, .int (nI rn)])), (r1, .inr (0, [.ref a1, .int (nI ((L.set k (atL L (k + 1))).length))])), (a1, .inl (cA, (100, .inl f1_1)))] H := hP
        have hD : va_D A [(x0, .inr (1, [.ref r0, .ref r1, .ref r2, .ref r3, .int (nI rn)])), (r1, .inr (0, [.ref a1, .int (nI ((L.set k (atL L (k + 1))).length))])), (a1, .inl (cA, (100, .inl f1_1)))] := hD
        refine lv_aload_n hx hb dX1_about_89 rfl (lv_at hl 2 rfl) ?_
        refine lv_iload_n hx hb dX1_about_90 rfl (lv_at hl 5 rfl) ?_
        refine lv_iconst (v := 1) hx hb dX1_about_91 (by decide) ?_
        refine lv_iadd hx hb dX1_about_92 ?_
        rw [show (nI k) + 1 = nI (k + 1) from nI_add k 1]
        refine lv_iload hx hb dX1_about_93 (lv_at hl 1 rfl) ?_
        refine g_MVv (As := [.int (nI (k + 1)), .int (atL L k)]) (rest := []) ⟨hx, hb, hml, hown, hts⟩ (mt_X0_set l dC dI cA H.size r1 a1 (L.set k (atL L (k + 1))) f1_1 (k + 1) (atL L k) hw_2 (by first | omega | (simp only [List.length_append, List.length_cons, List.length_nil, List.length_set, turnL_len]; omega))) (cwV 2 hts gX1_about_X0_set rfl rfl rfl hdX0_set ⟨Nat.le_of_ble_eq_true rfl, Nat.le_of_ble_eq_true rfl⟩) hP hK hD hS hA [1, 2] (by decide) rfl (va_recv hK hP (ci := 0) (q0 := 1) rfl rfl) rfl hl.1 rfl (Nat.le_of_ble_eq_true rfl) dX1_about_95 (Nat.zero_le _) (Nat.zero_le _) (fun u9 => [(x0, .inr (1, [.ref r0, .ref r1, .ref r2, .ref r3, .int (nI rn)])), (r1, .inr (0, [.ref a1, .int (nI (((L.set k (atL L (k + 1))).set (k + 1) (atL L k)).length))])), (a1, .inl (cA, (100, .inl u9)))]) (fun _ => rfl) (fun _ => rfl) (fun u H locs hw_4 hP hD hS => ?_)
        obtain ⟨f1_3, rfl⟩ : ∃ z, z = u := ⟨_, rfl⟩
        have hw_4 : RI ((L.set k (atL L (k + 1))).set (k + 1) (atL L k)) f1_3 := hw_4
        have hP : va_P (dC, dI) vwCl [(x0, .inr (1, [.ref r0, .ref r1, .ref r2, .ref r3, .int (nI rn)])), (r1, .inr (0, [.ref a1, .int (nI (((L.set k (atL L (k + 1))).set (k + 1) (atL L k)).length))])), (a1, .inl (cA, (100, .inl f1_3)))] H := hP
        have hD : va_D A [(x0, .inr (1, [.ref r0, .ref r1, .ref r2, .ref r3, .int (nI rn)])), (r1, .inr (0, [.ref a1, .int (nI (((L.set k (atL L (k + 1))).set (k + 1) (atL L k)).length))])), (a1, .inl (cA, (100, .inl f1_3)))] := hD
        refine lv_aload_n hx hb dX1_about_98 rfl (lv_at hl 2 rfl) ?_
        refine lv_iload_n hx hb dX1_about_99 rfl (lv_at hl 5 rfl) ?_
        refine lv_iconst (v := 2) hx hb dX1_about_100 (by decide) ?_
        refine lv_iadd hx hb dX1_about_101 ?_
        rw [show (nI k) + 2 = nI (k + 2) from nI_add k 2]
        refine lv_iload hx hb dX1_about_102 (lv_at hl 0 rfl) ?_
        refine g_MVv (As := [.int (nI (k + 2)), .int (atL L (k + 1))]) (rest := []) ⟨hx, hb, hml, hown, hts⟩ (mt_X0_set l dC dI cA H.size r1 a1 ((L.set k (atL L (k + 1))).set (k + 1) (atL L k)) f1_3 (k + 2) (atL L (k + 1)) hw_4 (by first | omega | (simp only [List.length_append, List.length_cons, List.length_nil, List.length_set, turnL_len]; omega))) (cwV 2 hts gX1_about_X0_set rfl rfl rfl hdX0_set ⟨Nat.le_of_ble_eq_true rfl, Nat.le_of_ble_eq_true rfl⟩) hP hK hD hS hA [1, 2] (by decide) rfl (va_recv hK hP (ci := 0) (q0 := 1) rfl rfl) rfl hl.1 rfl (Nat.le_of_ble_eq_true rfl) dX1_about_104 (Nat.zero_le _) (Nat.zero_le _) (fun u9 => [(x0, .inr (1, [.ref r0, .ref r1, .ref r2, .ref r3, .int (nI rn)])), (r1, .inr (0, [.ref a1, .int (nI ((((L.set k (atL L (k + 1))).set (k + 1) (atL L k)).set (k + 2) (atL L (k + 1))).length))])), (a1, .inl (cA, (100, .inl u9)))]) (fun _ => rfl) (fun _ => rfl) (fun u H locs hw_6 hP hD hS => ?_)
        obtain ⟨f1_5, rfl⟩ : ∃ z, z = u := ⟨_, rfl⟩
        have hw_6 : RI (((L.set k (atL L (k + 1))).set (k + 1) (atL L k)).set (k + 2) (atL L (k + 1))) f1_5 := hw_6
        have hP : va_P (dC, dI) vwCl [(x0, .inr (1, [.ref r0, .ref r1, .ref r2, .ref r3, .int (nI rn)])), (r1, .inr (0, [.ref a1, .int (nI ((((L.set k (atL L (k + 1))).set (k + 1) (atL L k)).set (k + 2) (atL L (k + 1))).length))])), (a1, .inl (cA, (100, .inl f1_5)))] H := hP
        have hD : va_D A [(x0, .inr (1, [.ref r0, .ref r1, .ref r2, .ref r3, .int (nI rn)])), (r1, .inr (0, [.ref a1, .int (nI ((((L.set k (atL L (k + 1))).set (k + 1) (atL L k)).set (k + 2) (atL L (k + 1))).length))])), (a1, .inl (cA, (100, .inl f1_5)))] := hD
        refine lv_iload hx hb dX1_about_107 (lv_at hl 0 rfl) ?_
        exact g_endMi hx hb hr hlocks hP hS dX1_about_109 f1_5 rfl rfl hw_6
      · exact absurd ha3 c69

abbrev mt_X1_insert1_rm : Room := { frames := 2, cells := 0, slots := 0, locals := 45 }
set_option maxHeartbeats 4000000 in
set_option maxRecDepth 100000 in
/-- insert -/
theorem mt_X1_insert1 (l : Launch) (dC : Nat → ClassId) (dI : Nat → Nat → Nat) (cA : ClassId) (sz : Nat) (x0 : Nat) (r0 : Nat) (r1 : Nat) (r2 : Nat) (r3 : Nat) (rn : Nat) (a1 : Nat) (L : List Int32) (f : Nat → Int32) (k : Nat) (x : Int32) (hR : RI L f) (hk : k ≤ L.length) (h0 : ¬ x = 0) (h1 : ¬ x ≤ -nI rn) (h2 : x < nI rn) (hk2 : L.length + 2 ≤ 30) : Met l yX1_insert wsX1_insert mt_X1_insert1_rm (va_Pc [.ref x0, .int (nI 1), .int (nI k), .int x] (gB (dC, dI) [(cA, .int)] [(x0, .inr (1, [.ref r0, .ref r1, .ref r2, .ref r3, .int (nI rn)])), (r1, .inr (0, [.ref a1, .int (nI L.length)])), (a1, .inl (cA, (100, .inl f)))] sz)) (gM (dC, dI) (some (.int (nI (insL (insL L k (-x)) k x).length))) (fun u : (Nat → Int32) => RI (insL (insL L k (-x)) k x) u) (fun u : (Nat → Int32) => [(x0, .inr (1, [.ref r0, .ref r1, .ref r2, .ref r3, .int (nI rn)])), (r1, .inr (0, [.ref a1, .int (nI ((insL (insL L k (-x)) k x).length))])), (a1, .inl (cA, (100, .inl u)))]) (va_A [(x0, .inr (1, [.ref r0, .ref r1, .ref r2, .ref r3, .int (nI rn)])), (r1, .inr (0, [.ref a1, .int (nI L.length)])), (a1, .inl (cA, (100, .inl f)))] sz)) 0 0 (va_A [(x0, .inr (1, [.ref r0, .ref r1, .ref r2, .ref r3, .int (nI rn)])), (r1, .inr (0, [.ref a1, .int (nI L.length)])), (a1, .inl (cA, (100, .inl f)))] sz) := by
  refine g_ofM (cc := cX1_insert) (maxL := 5) (ret := (some .int)) (by decide) rfl (Nat.le_of_ble_eq_true rfl) (fun p e s m below meth c ls hx hb hr hml hts hown hlocks hP hK hl hin A hA hD hS => ?_)
  have hl : lv_has ls 5 [(0, .ref x0), (1, .int (nI 1)), (2, .int (nI k)), (3, .int x)] := hl
  have hL := hR.1
  refine lv_iload_n hx hb dX1_insert_0 rfl (lv_at hl 1 rfl) ?_
  refine g_RSv (As := [.int (nI 1)]) (rest := []) ⟨hx, hb, hml, hown, hts⟩ (mt_X1_requireWord l dC dI cA s.heap.size 1 (by first | omega | (simp only [List.length_append, List.length_cons, List.length_nil, List.length_set, turnL_len]; omega))) (va_cwS 1 hts gX1_insert_X1_requireWord rfl rfl rfl hdX1_requireWord ⟨Nat.le_of_ble_eq_true rfl, Nat.le_of_ble_eq_true rfl⟩) hP hK hD [] (by decide) rfl rfl hl.1 rfl (Nat.le_of_ble_eq_true rfl) dX1_insert_1 (Nat.zero_le _) (Nat.zero_le _) ?_
  refine lv_aload_n hx hb dX1_insert_4 rfl (lv_at hl 0 rfl) ?_
  refine lv_iload_n hx hb dX1_insert_5 rfl (lv_at hl 1 rfl) ?_
  refine g_RVr (As := [.int (nI 1)]) (rest := []) ⟨hx, hb, hml, hown, hts⟩ (mt_X1_rowOf1 l dC dI cA s.heap.size x0 r0 r1 r2 r3 (nI rn)) (cwV 1 hts gX1_insert_X1_rowOf rfl rfl rfl hdX1_rowOf ⟨Nat.le_of_ble_eq_true rfl, Nat.le_of_ble_eq_true rfl⟩) hP hK hD [0] (by decide) rfl (va_recv hK hP (ci := 1) (q0 := 0) rfl rfl) rfl hl.1 rfl (Nat.le_of_ble_eq_true rfl) dX1_insert_6 (Nat.zero_le _) (Nat.zero_le _) ?_
  refine lv_astore (lv' := [(4, .ref r1), (0, .ref x0), (1, .int (nI 1)), (2, .int (nI k)), (3, .int x)]) hx hb dX1_insert_9 hl (by decide) rfl (fun ls hl => ?_)
  refine lv_iload_n hx hb dX1_insert_11 rfl (lv_at hl 3 rfl) ?_
  refine lv_aload hx hb dX1_insert_12 (lv_at hl 0 rfl) ?_
  refine g_RVi (As := []) (rest := [.int (nI k)]) ⟨hx, hb, hml, hown, hts⟩ (mt_X0_size l dC dI cA s.heap.size r1 a1 (nI L.length) f) (cwV 0 hts gX1_insert_X0_size rfl rfl rfl hdX0_size ⟨Nat.le_of_ble_eq_true rfl, Nat.le_of_ble_eq_true rfl⟩) hP hK hD [1, 2] (by decide) rfl (va_recv hK hP (ci := 0) (q0 := 1) rfl rfl) rfl hl.1 rfl (Nat.le_of_ble_eq_true rfl) dX1_insert_14 (Nat.zero_le _) (Nat.zero_le _) ?_
  refine lv_iconst (v := 1) hx hb dX1_insert_17 (by decide) ?_
  refine lv_iadd hx hb dX1_insert_18 ?_
  rw [show (nI L.length) + 1 = nI (L.length + 1) from nI_add L.length 1]
  refine g_RSv (As := [.int (nI k), .int (nI (L.length + 1))]) (rest := []) ⟨hx, hb, hml, hown, hts⟩ (mt_X1_requirePlace l dC dI cA s.heap.size (nI k) (nI (L.length + 1)) (nI_pos (by omega)) (nI_lt (by omega) (by omega))) (va_cwS 2 hts gX1_insert_X1_requirePlace rfl rfl rfl hdX1_requirePlace ⟨Nat.le_of_ble_eq_true rfl, Nat.le_of_ble_eq_true rfl⟩) hP hK hD [] (by decide) rfl rfl hl.1 rfl (Nat.le_of_ble_eq_true rfl) dX1_insert_19 (Nat.zero_le _) (Nat.zero_le _) ?_
  refine lv_aload_n hx hb dX1_insert_22 rfl (lv_at hl 1 rfl) ?_
  refine lv_iload_n hx hb dX1_insert_23 rfl (lv_at hl 4 rfl) ?_
  refine g_RVv (As := [.int x]) (rest := []) ⟨hx, hb, hml, hown, hts⟩ (mt_X1_requireLetter l dC dI cA s.heap.size x0 r0 r1 r2 r3 (nI rn) x h0 h1 h2) (cwV 1 hts gX1_insert_X1_requireLetter rfl rfl rfl hdX1_requireLetter ⟨Nat.le_of_ble_eq_true rfl, Nat.le_of_ble_eq_true rfl⟩) hP hK hD [0] (by decide) rfl (va_recv hK hP (ci := 1) (q0 := 0) rfl rfl) rfl hl.1 rfl (Nat.le_of_ble_eq_true rfl) dX1_insert_24 (Nat.zero_le _) (Nat.zero_le _) ?_
  refine lv_aload hx hb dX1_insert_27 (lv_at hl 0 rfl) ?_
  refine lv_iconst (v := 2) hx hb dX1_insert_29 (by decide) ?_
  refine g_RSv (As := [.ref r1, .int 2]) (rest := []) ⟨hx, hb, hml, hown, hts⟩ (mt_X1_requireRoom l dC dI cA s.heap.size r1 a1 L f 2 (room_ok L.length 2 (by omega))) (va_cwS 2 hts gX1_insert_X1_requireRoom rfl rfl rfl hdX1_requireRoom ⟨Nat.le_of_ble_eq_true rfl, Nat.le_of_ble_eq_true rfl⟩) hP hK hD [1, 2] (by decide) rfl rfl hl.1 rfl (Nat.le_of_ble_eq_true rfl) dX1_insert_30 (Nat.zero_le _) (Nat.zero_le _) ?_
  refine lv_aload hx hb dX1_insert_33 (lv_at hl 0 rfl) ?_
  refine lv_iload_n hx hb dX1_insert_35 rfl (lv_at hl 3 rfl) ?_
  refine lv_iload_n hx hb dX1_insert_36 rfl (lv_at hl 4 rfl) ?_
  refine lv_ineg hx hb dX1_insert_37 ?_
  refine g_MVv (As := [.int (nI k), .int (-x)]) (rest := []) ⟨hx, hb, hml, hown, hts⟩ (mt_X0_putIn l dC dI cA s.heap.size r1 a1 L f k (-x) hR (by first | omega | (simp only [List.length_append, List.length_cons, List.length_nil, List.length_set, turnL_len]; omega)) (by first | omega | (simp only [List.length_append, List.length_cons, List.length_nil, List.length_set, turnL_len]; omega))) (cwV 2 hts gX1_insert_X0_putIn rfl rfl rfl hdX0_putIn ⟨Nat.le_of_ble_eq_true rfl, Nat.le_of_ble_eq_true rfl⟩) hP hK hD hS hA [1, 2] (by decide) rfl (va_recv hK hP (ci := 0) (q0 := 1) rfl rfl) rfl hl.1 rfl (Nat.le_of_ble_eq_true rfl) dX1_insert_38 (Nat.zero_le _) (Nat.zero_le _) (fun u9 => [(x0, .inr (1, [.ref r0, .ref r1, .ref r2, .ref r3, .int (nI rn)])), (r1, .inr (0, [.ref a1, .int (nI ((insL L k (-x)).length))])), (a1, .inl (cA, (100, .inl u9)))]) (fun _ => rfl) (fun _ => rfl) (fun u H locs hw_2 hP hD hS => ?_)
  obtain ⟨f3_1, rfl⟩ : ∃ z, z = u := ⟨_, rfl⟩
  have hw_2 : RI (insL L k (-x)) f3_1 := hw_2
  have hP : va_P (dC, dI) vwCl [(x0, .inr (1, [.ref r0, .ref r1, .ref r2, .ref r3, .int (nI rn)])), (r1, .inr (0, [.ref a1, .int (nI ((insL L k (-x)).length))])), (a1, .inl (cA, (100, .inl f3_1)))] H := hP
  have hD : va_D A [(x0, .inr (1, [.ref r0, .ref r1, .ref r2, .ref r3, .int (nI rn)])), (r1, .inr (0, [.ref a1, .int (nI ((insL L k (-x)).length))])), (a1, .inl (cA, (100, .inl f3_1)))] := hD
  refine lv_aload hx hb dX1_insert_41 (lv_at hl 0 rfl) ?_
  refine lv_iload_n hx hb dX1_insert_43 rfl (lv_at hl 3 rfl) ?_
  refine lv_iload_n hx hb dX1_insert_44 rfl (lv_at hl 4 rfl) ?_
  refine g_MVv (As := [.int (nI k), .int x]) (rest := []) ⟨hx, hb, hml, hown, hts⟩ (mt_X0_putIn l dC dI cA H.size r1 a1 (insL L k (-x)) f3_1 k x hw_2 (by rw [insL_len hk]; omega) (by rw [insL_len hk]; omega)) (cwV 2 hts gX1_insert_X0_putIn rfl rfl rfl hdX0_putIn ⟨Nat.le_of_ble_eq_true rfl, Nat.le_of_ble_eq_true rfl⟩) hP hK hD hS hA [1, 2] (by decide) rfl (va_recv hK hP (ci := 0) (q0 := 1) rfl rfl) rfl hl.1 rfl (Nat.le_of_ble_eq_true rfl) dX1_insert_45 (Nat.zero_le _) (Nat.zero_le _) (fun u9 => [(x0, .inr (1, [.ref r0, .ref r1, .ref r2, .ref r3, .int (nI rn)])), (r1, .inr (0, [.ref a1, .int (nI ((insL (insL L k (-x)) k x).length))])), (a1, .inl (cA, (100, .inl u9)))]) (fun _ => rfl) (fun _ => rfl) (fun u H locs hw_4 hP hD hS => ?_)
  obtain ⟨f3_3, rfl⟩ : ∃ z, z = u := ⟨_, rfl⟩
  have hw_4 : RI (insL (insL L k (-x)) k x) f3_3 := hw_4
  have hP : va_P (dC, dI) vwCl [(x0, .inr (1, [.ref r0, .ref r1, .ref r2, .ref r3, .int (nI rn)])), (r1, .inr (0, [.ref a1, .int (nI ((insL (insL L k (-x)) k x).length))])), (a1, .inl (cA, (100, .inl f3_3)))] H := hP
  have hD : va_D A [(x0, .inr (1, [.ref r0, .ref r1, .ref r2, .ref r3, .int (nI rn)])), (r1, .inr (0, [.ref a1, .int (nI ((insL (insL L k (-x)) k x).length))])), (a1, .inl (cA, (100, .inl f3_3)))] := hD
  refine lv_aload hx hb dX1_insert_48 (lv_at hl 0 rfl) ?_
  refine g_RVi (As := []) (rest := []) ⟨hx, hb, hml, hown, hts⟩ (mt_X0_size l dC dI cA H.size r1 a1 (nI ((insL (insL L k (-x)) k x).length)) f3_3) (cwV 0 hts gX1_insert_X0_size rfl rfl rfl hdX0_size ⟨Nat.le_of_ble_eq_true rfl, Nat.le_of_ble_eq_true rfl⟩) hP hK hD [1, 2] (by decide) rfl (va_recv hK hP (ci := 0) (q0 := 1) rfl rfl) rfl hl.1 rfl (Nat.le_of_ble_eq_true rfl) dX1_insert_50 (Nat.zero_le _) (Nat.zero_le _) ?_
  exact g_endMi hx hb hr hlocks hP hS dX1_insert_53 f3_3 rfl rfl hw_4

abbrev mt_X1_cut1_rm : Room := { frames := 3, cells := 0, slots := 0, locals := 71 }
set_option maxHeartbeats 4000000 in
set_option maxRecDepth 100000 in
/-- cut -/
theorem mt_X1_cut1 (l : Launch) (dC : Nat → ClassId) (dI : Nat → Nat → Nat) (cA : ClassId) (sz : Nat) (x0 : Nat) (r0 : Nat) (r1 : Nat) (r2 : Nat) (r3 : Nat) (rn : Nat) (a1 : Nat) (L : List Int32) (f : Nat → Int32) (a3 : Nat) (n3 : Int32) (f3 : Nat → Int32) (b9 : Nat) (e9 : Nat) (hR : RI L f) (he : enF L 0 = some e9) (hb9 : bg L e9 = some b9) (hk : (cutL L b9 e9).length ≤ 30) : Met l yX1_cut wsX1_cut mt_X1_cut1_rm (va_Pc [.ref x0, .int (nI 1)] (gB (dC, dI) [(cA, .int)] [(x0, .inr (1, [.ref r0, .ref r1, .ref r2, .ref r3, .int (nI rn)])), (r1, .inr (0, [.ref a1, .int (nI L.length)])), (a1, .inl (cA, (100, .inl f))), (r3, .inr (0, [.ref a3, .int n3])), (a3, .inl (cA, (100, .inl f3)))] sz)) (gM (dC, dI) (some (.int (nI (cutL L b9 e9).length))) (fun u : (Nat → Int32) × (Nat → Int32) => RI (cutL L b9 e9) u.1) (fun u : (Nat → Int32) × (Nat → Int32) => [(x0, .inr (1, [.ref r0, .ref r1, .ref r2, .ref r3, .int (nI rn)])), (r1, .inr (0, [.ref a1, .int (nI ((cutL L b9 e9).length))])), (a1, .inl (cA, (100, .inl u.1))), (r3, .inr (0, [.ref a3, .int (nI ((cutL L b9 e9).length))])), (a3, .inl (cA, (100, .inl u.2)))]) (va_A [(x0, .inr (1, [.ref r0, .ref r1, .ref r2, .ref r3, .int (nI rn)])), (r1, .inr (0, [.ref a1, .int (nI L.length)])), (a1, .inl (cA, (100, .inl f))), (r3, .inr (0, [.ref a3, .int n3])), (a3, .inl (cA, (100, .inl f3)))] sz)) 0 0 (va_A [(x0, .inr (1, [.ref r0, .ref r1, .ref r2, .ref r3, .int (nI rn)])), (r1, .inr (0, [.ref a1, .int (nI L.length)])), (a1, .inl (cA, (100, .inl f))), (r3, .inr (0, [.ref a3, .int n3])), (a3, .inl (cA, (100, .inl f3)))] sz) := by
  refine g_ofM (cc := cX1_cut) (maxL := 5) (ret := (some .int)) (by decide) rfl (Nat.le_of_ble_eq_true rfl) (fun p e s m below meth c ls hx hb hr hml hts hown hlocks hP hK hl hin A hA hD hS => ?_)
  have hl : lv_has ls 5 [(0, .ref x0), (1, .int (nI 1))] := hl
  have hL := hR.1
  obtain ⟨-, he2, -, -⟩ := enF_spec he
  have hbl := bg_lt hb9
  refine lv_iload_n hx hb dX1_cut_0 rfl (lv_at hl 1 rfl) ?_
  refine g_RSv (As := [.int (nI 1)]) (rest := []) ⟨hx, hb, hml, hown, hts⟩ (mt_X1_requireWord l dC dI cA s.heap.size 1 (by first | omega | (simp only [List.length_append, List.length_cons, List.length_nil, List.length_set, turnL_len]; omega))) (va_cwS 1 hts gX1_cut_X1_requireWord rfl rfl rfl hdX1_requireWord ⟨Nat.le_of_ble_eq_true rfl, Nat.le_of_ble_eq_true rfl⟩) hP hK hD [] (by decide) rfl rfl hl.1 rfl (Nat.le_of_ble_eq_true rfl) dX1_cut_1 (Nat.zero_le _) (Nat.zero_le _) ?_
  refine lv_aload_n hx hb dX1_cut_4 rfl (lv_at hl 0 rfl) ?_
  refine lv_iload_n hx hb dX1_cut_5 rfl (lv_at hl 1 rfl) ?_
  refine g_RVr (As := [.int (nI 1)]) (rest := []) ⟨hx, hb, hml, hown, hts⟩ (mt_X1_rowOf1 l dC dI cA s.heap.size x0 r0 r1 r2 r3 (nI rn)) (cwV 1 hts gX1_cut_X1_rowOf rfl rfl rfl hdX1_rowOf ⟨Nat.le_of_ble_eq_true rfl, Nat.le_of_ble_eq_true rfl⟩) hP hK hD [0] (by decide) rfl (va_recv hK hP (ci := 1) (q0 := 0) rfl rfl) rfl hl.1 rfl (Nat.le_of_ble_eq_true rfl) dX1_cut_6 (Nat.zero_le _) (Nat.zero_le _) ?_
  refine lv_astore_n (lv' := [(2, .ref r1), (0, .ref x0), (1, .int (nI 1))]) hx hb dX1_cut_9 rfl hl (by decide) rfl (fun ls hl => ?_)
  refine lv_aload_n hx hb dX1_cut_10 rfl (lv_at hl 0 rfl) ?_
  refine lv_iconst (v := 0) hx hb dX1_cut_11 (by decide) ?_
  refine g_RSi (As := [.ref r1, .int 0]) (rest := []) ⟨hx, hb, hml, hown, hts⟩ (mt_X1_lastOfFirstHandle l dC dI cA s.heap.size r1 a1 L f 0 hR (by first | omega | (simp only [List.length_append, List.length_cons, List.length_nil, List.length_set, turnL_len]; omega))) (va_cwS 2 hts gX1_cut_X1_lastOfFirstHandle rfl rfl rfl hdX1_lastOfFirstHandle ⟨Nat.le_of_ble_eq_true rfl, Nat.le_of_ble_eq_true rfl⟩) hP hK hD [1, 2] (by decide) rfl rfl hl.1 rfl (Nat.le_of_ble_eq_true rfl) dX1_cut_12 (Nat.zero_le _) (Nat.zero_le _) ?_
  rw [show oiI (enF L 0) = nI e9 from by rw [he]; rfl]
  refine lv_istore_n (lv' := [(3, .int (nI e9)), (2, .ref r1), (0, .ref x0), (1, .int (nI 1))]) hx hb dX1_cut_15 rfl hl (by decide) rfl (fun ls hl => ?_)
  refine lv_iload_n hx hb dX1_cut_16 rfl (lv_at hl 0 rfl) ?_
  refine lv_iconst (v := (-1)) hx hb dX1_cut_17 (by decide) ?_
  refine lv_icmp_ne (tgt := 31) hx hb dX1_cut_18 (by decide) (fun c18 => ?_) (fun c18 => ?_)
  · refine lv_aload_n hx hb dX1_cut_31 rfl (lv_at hl 1 rfl) ?_
    refine lv_iload_n hx hb dX1_cut_32 rfl (lv_at hl 0 rfl) ?_
    refine g_RSi (As := [.ref r1, .int (nI e9)]) (rest := []) ⟨hx, hb, hml, hown, hts⟩ (mt_X1_firstOfHandle l dC dI cA s.heap.size r1 a1 L f e9 hR (by first | omega | (simp only [List.length_append, List.length_cons, List.length_nil, List.length_set, turnL_len]; omega))) (va_cwS 2 hts gX1_cut_X1_firstOfHandle rfl rfl rfl hdX1_firstOfHandle ⟨Nat.le_of_ble_eq_true rfl, Nat.le_of_ble_eq_true rfl⟩) hP hK hD [1, 2] (by decide) rfl rfl hl.1 rfl (Nat.le_of_ble_eq_true rfl) dX1_cut_33 (Nat.zero_le _) (Nat.zero_le _) ?_
    rw [show oiI (bg L e9) = nI b9 from by rw [hb9]; rfl]
    refine lv_istore (lv' := [(4, .int (nI b9)), (3, .int (nI e9)), (2, .ref r1), (0, .ref x0), (1, .int (nI 1))]) hx hb dX1_cut_36 hl (by decide) rfl (fun ls hl => ?_)
    refine lv_aload_n hx hb dX1_cut_38 rfl (lv_at hl 2 rfl) ?_
    refine lv_aload_n hx hb dX1_cut_39 rfl (lv_at hl 2 rfl) ?_
    refine lv_iload hx hb dX1_cut_40 (lv_at hl 0 rfl) ?_
    refine lv_iload_n hx hb dX1_cut_42 rfl (lv_at hl 1 rfl) ?_
    refine g_RSi (As := [.ref r1, .int (nI b9), .int (nI e9)]) (rest := [.ref r1]) ⟨hx, hb, hml, hown, hts⟩ (mt_X1_moreByCutting l dC dI cA s.heap.size r1 a1 L f b9 e9 hR (by first | omega | (simp only [List.length_append, List.length_cons, List.length_nil, List.length_set, turnL_len]; omega)) (by first | omega | (simp only [List.length_append, List.length_cons, List.length_nil, List.length_set, turnL_len]; omega))) (va_cwS 3 hts gX1_cut_X1_moreByCutting rfl rfl rfl hdX1_moreByCutting ⟨Nat.le_of_ble_eq_true rfl, Nat.le_of_ble_eq_true rfl⟩) hP hK hD [1, 2] (by decide) rfl rfl hl.1 rfl (Nat.le_of_ble_eq_true rfl) dX1_cut_43 (Nat.zero_le _) (Nat.zero_le _) ?_
    refine g_RSv (As := [.ref r1, .int (moI (cnL L b9 (e9 - (b9 + 1))))]) (rest := []) ⟨hx, hb, hml, hown, hts⟩ (mt_X1_requireRoom l dC dI cA s.heap.size r1 a1 L f (moI (cnL L b9 (e9 - (b9 + 1)))) (by rw [cut_more hbl he2]; exact nI_le hk (by decide))) (va_cwS 2 hts gX1_cut_X1_requireRoom rfl rfl rfl hdX1_requireRoom ⟨Nat.le_of_ble_eq_true rfl, Nat.le_of_ble_eq_true rfl⟩) hP hK hD [1, 2] (by decide) rfl rfl hl.1 rfl (Nat.le_of_ble_eq_true rfl) dX1_cut_46 (Nat.zero_le _) (Nat.zero_le _) ?_
    refine lv_aload_n hx hb dX1_cut_49 rfl (lv_at hl 3 rfl) ?_
    refine lv_aload_n hx hb dX1_cut_50 rfl (lv_at hl 2 rfl) ?_
    refine lv_iload hx hb dX1_cut_51 (lv_at hl 0 rfl) ?_
    refine lv_iload_n hx hb dX1_cut_53 rfl (lv_at hl 1 rfl) ?_
    refine g_MVv (As := [.ref r1, .int (nI b9), .int (nI e9)]) (rest := []) ⟨hx, hb, hml, hown, hts⟩ (mt_X1_cutHandle l dC dI cA s.heap.size x0 r0 r1 r2 r3 (nI rn) r1 a1 a3 L f n3 f3 b9 e9 hR (by first | omega | (simp only [List.length_append, List.length_cons, List.length_nil, List.length_set, turnL_len]; omega)) (by first | omega | (simp only [List.length_append, List.length_cons, List.length_nil, List.length_set, turnL_len]; omega)) (by first | omega | (simp only [List.length_append, List.length_cons, List.length_nil, List.length_set, turnL_len]; omega))) (cwV 3 hts gX1_cut_X1_cutHandle rfl rfl rfl hdX1_cutHandle ⟨Nat.le_of_ble_eq_true rfl, Nat.le_of_ble_eq_true rfl⟩) hP hK hD hS hA [0, 1, 2, 3, 4] (by decide) rfl (va_recv hK hP (ci := 1) (q0 := 0) rfl rfl) rfl hl.1 rfl (Nat.le_of_ble_eq_true rfl) dX1_cut_54 (Nat.zero_le _) (Nat.zero_le _) (fun u9 => [(x0, .inr (1, [.ref r0, .ref r1, .ref r2, .ref r3, .int (nI rn)])), (r1, .inr (0, [.ref a1, .int (nI ((cutL L b9 e9).length))])), (a1, .inl (cA, (100, .inl u9.1))), (r3, .inr (0, [.ref a3, .int (nI ((cutL L b9 e9).length))])), (a3, .inl (cA, (100, .inl u9.2)))]) (fun _ => rfl) (fun _ => rfl) (fun u H locs hw_3 hP hD hS => ?_)
    obtain ⟨f1_1, f2_2⟩ := u
    have hw_3 : RI (cutL L b9 e9) f1_1 := hw_3
    have hP : va_P (dC, dI) vwCl [(x0, .inr (1, [.ref r0, .ref r1, .ref r2, .ref r3, .int (nI rn)])), (r1, .inr (0, [.ref a1, .int (nI ((cutL L b9 e9).length))])), (a1, .inl (cA, (100, .inl f1_1))), (r3, .inr (0, [.ref a3, .int (nI ((cutL L b9 e9).length))])), (a3, .inl (cA, (100, .inl f2_2)))] H := hP
    have hD : va_D A [(x0, .inr (1, [.ref r0, .ref r1, .ref r2, .ref r3, .int (nI rn)])), (r1, .inr (0, [.ref a1, .int (nI ((cutL L b9 e9).length))])), (a1, .inl (cA, (100, .inl f1_1))), (r3, .inr (0, [.ref a3, .int (nI ((cutL L b9 e9).length))])), (a3, .inl (cA, (100, .inl f2_2)))] := hD
    refine lv_aload_n hx hb dX1_cut_57 rfl (lv_at hl 2 rfl) ?_
    refine g_RVi (As := []) (rest := []) ⟨hx, hb, hml, hown, hts⟩ (mt_X0_size l dC dI cA H.size r1 a1 (nI ((cutL L b9 e9).length)) f1_1) (cwV 0 hts gX1_cut_X0_size rfl rfl rfl hdX0_size ⟨Nat.le_of_ble_eq_true rfl, Nat.le_of_ble_eq_true rfl⟩) hP hK hD [1, 2] (by decide) rfl (va_recv hK hP (ci := 0) (q0 := 1) rfl rfl) rfl hl.1 rfl (Nat.le_of_ble_eq_true rfl) dX1_cut_58 (Nat.zero_le _) (Nat.zero_le _) ?_
    exact g_endMi hx hb hr hlocks hP hS dX1_cut_61 (f1_1, f2_2) rfl rfl hw_3
  · exact absurd c18 (nI_nm1 (by omega))

abbrev mt_X1_letter1_rm : Room := { frames := 1, cells := 0, slots := 0, locals := 21 }
set_option maxHeartbeats 4000000 in
set_option maxRecDepth 100000 in
/-- letter -/
theorem mt_X1_letter1 (l : Launch) (dC : Nat → ClassId) (dI : Nat → Nat → Nat) (cA : ClassId) (sz : Nat) (x0 : Nat) (r0 : Nat) (r1 : Nat) (r2 : Nat) (r3 : Nat) (rn : Nat) (a1 : Nat) (L : List Int32) (f : Nat → Int32) (k : Nat) (hR : RI L f) (hk : k < L.length) : Met l yX1_letter wsX1_letter mt_X1_letter1_rm (va_Pc [.ref x0, .int (nI 1), .int (nI k)] (gB (dC, dI) [(cA, .int)] [(x0, .inr (1, [.ref r0, .ref r1, .ref r2, .ref r3, .int (nI rn)])), (r1, .inr (0, [.ref a1, .int (nI L.length)])), (a1, .inl (cA, (100, .inl f)))] sz)) (gR (some (.int (atL L k)))) 0 0 (fun _ => False) := by
  refine g_ofR (cc := cX1_letter) (maxL := 4) (ret := (some .int)) (by decide) rfl (Nat.le_of_ble_eq_true rfl) (fun p e s m below meth c ls hx hb hr hml hts hown hlocks hP hK hl hD => ?_)
  have hS : va_S (fun _ => True) s.heap s.heap [] := va_S.rf
  have hl : lv_has ls 4 [(0, .ref x0), (1, .int (nI 1)), (2, .int (nI k))] := hl
  have hL := hR.1
  refine lv_iload_n hx hb dX1_letter_0 rfl (lv_at hl 1 rfl) ?_
  refine g_RSv (As := [.int (nI 1)]) (rest := []) ⟨hx, hb, hml, hown, hts⟩ (mt_X1_requireWord l dC dI cA s.heap.size 1 (by first | omega | (simp only [List.length_append, List.length_cons, List.length_nil, List.length_set, turnL_len]; omega))) (va_cwS 1 hts gX1_letter_X1_requireWord rfl rfl rfl hdX1_requireWord ⟨Nat.le_of_ble_eq_true rfl, Nat.le_of_ble_eq_true rfl⟩) hP hK hD [] (by decide) rfl rfl hl.1 rfl (Nat.le_of_ble_eq_true rfl) dX1_letter_1 (Nat.zero_le _) (Nat.zero_le _) ?_
  refine lv_aload_n hx hb dX1_letter_4 rfl (lv_at hl 0 rfl) ?_
  refine lv_iload_n hx hb dX1_letter_5 rfl (lv_at hl 1 rfl) ?_
  refine g_RVr (As := [.int (nI 1)]) (rest := []) ⟨hx, hb, hml, hown, hts⟩ (mt_X1_rowOf1 l dC dI cA s.heap.size x0 r0 r1 r2 r3 (nI rn)) (cwV 1 hts gX1_letter_X1_rowOf rfl rfl rfl hdX1_rowOf ⟨Nat.le_of_ble_eq_true rfl, Nat.le_of_ble_eq_true rfl⟩) hP hK hD [0] (by decide) rfl (va_recv hK hP (ci := 1) (q0 := 0) rfl rfl) rfl hl.1 rfl (Nat.le_of_ble_eq_true rfl) dX1_letter_6 (Nat.zero_le _) (Nat.zero_le _) ?_
  refine lv_astore_n (lv' := [(3, .ref r1), (0, .ref x0), (1, .int (nI 1)), (2, .int (nI k))]) hx hb dX1_letter_9 rfl hl (by decide) rfl (fun ls hl => ?_)
  refine lv_iload_n hx hb dX1_letter_10 rfl (lv_at hl 3 rfl) ?_
  refine lv_aload_n hx hb dX1_letter_11 rfl (lv_at hl 0 rfl) ?_
  refine g_RVi (As := []) (rest := [.int (nI k)]) ⟨hx, hb, hml, hown, hts⟩ (mt_X0_size l dC dI cA s.heap.size r1 a1 (nI L.length) f) (cwV 0 hts gX1_letter_X0_size rfl rfl rfl hdX0_size ⟨Nat.le_of_ble_eq_true rfl, Nat.le_of_ble_eq_true rfl⟩) hP hK hD [1, 2] (by decide) rfl (va_recv hK hP (ci := 0) (q0 := 1) rfl rfl) rfl hl.1 rfl (Nat.le_of_ble_eq_true rfl) dX1_letter_12 (Nat.zero_le _) (Nat.zero_le _) ?_
  refine g_RSv (As := [.int (nI k), .int (nI L.length)]) (rest := []) ⟨hx, hb, hml, hown, hts⟩ (mt_X1_requirePlace l dC dI cA s.heap.size (nI k) (nI L.length) (nI_pos (by omega)) (nI_lt hk (by omega))) (va_cwS 2 hts gX1_letter_X1_requirePlace rfl rfl rfl hdX1_requirePlace ⟨Nat.le_of_ble_eq_true rfl, Nat.le_of_ble_eq_true rfl⟩) hP hK hD [] (by decide) rfl rfl hl.1 rfl (Nat.le_of_ble_eq_true rfl) dX1_letter_15 (Nat.zero_le _) (Nat.zero_le _) ?_
  refine lv_aload_n hx hb dX1_letter_18 rfl (lv_at hl 0 rfl) ?_
  refine lv_iload_n hx hb dX1_letter_19 rfl (lv_at hl 3 rfl) ?_
  refine g_RVi (As := [.int (nI k)]) (rest := []) ⟨hx, hb, hml, hown, hts⟩ (mt_X0_at l dC dI cA s.heap.size r1 a1 L f k hR (by first | omega | (simp only [List.length_append, List.length_cons, List.length_nil, List.length_set, turnL_len]; omega))) (cwV 1 hts gX1_letter_X0_at rfl rfl rfl hdX0_at ⟨Nat.le_of_ble_eq_true rfl, Nat.le_of_ble_eq_true rfl⟩) hP hK hD [1, 2] (by decide) rfl (va_recv hK hP (ci := 0) (q0 := 1) rfl rfl) rfl hl.1 rfl (Nat.le_of_ble_eq_true rfl) dX1_letter_20 (Nat.zero_le _) (Nat.zero_le _) ?_
  exact g_endRi hx hb hr hlocks dX1_letter_23 rfl

abbrev mt_X1_end1_rm : Room := { frames := 3, cells := 0, slots := 0, locals := 65 }
set_option maxHeartbeats 4000000 in
set_option maxRecDepth 100000 in
/-- end -/
theorem mt_X1_end1 (l : Launch) (dC : Nat → ClassId) (dI : Nat → Nat → Nat) (cA : ClassId) (sz : Nat) (x0 : Nat) (r0 : Nat) (r1 : Nat) (r2 : Nat) (r3 : Nat) (rn : Nat) (a1 : Nat) (L : List Int32) (f : Nat → Int32) (x : Int32) (hR : RI L f) (h0 : ¬ x < 0) (h1 : x < nI rn) : Met l yX1_end wsX1_end mt_X1_end1_rm (va_Pc [.ref x0, .int (nI 1), .int x] (gB (dC, dI) [(cA, .int)] [(x0, .inr (1, [.ref r0, .ref r1, .ref r2, .ref r3, .int (nI rn)])), (r1, .inr (0, [.ref a1, .int (nI L.length)])), (a1, .inl (cA, (100, .inl f)))] sz)) (gR (some (.int (plE L x L.length)))) 0 0 (fun _ => False) := by
  refine g_ofR (cc := cX1_end) (maxL := 3) (ret := (some .int)) (by decide) rfl (Nat.le_of_ble_eq_true rfl) (fun p e s m below meth c ls hx hb hr hml hts hown hlocks hP hK hl hD => ?_)
  have hS : va_S (fun _ => True) s.heap s.heap [] := va_S.rf
  have hl : lv_has ls 3 [(0, .ref x0), (1, .int (nI 1)), (2, .int x)] := hl
  have hL := hR.1
  refine lv_iload_n hx hb dX1_end_0 rfl (lv_at hl 1 rfl) ?_
  refine g_RSv (As := [.int (nI 1)]) (rest := []) ⟨hx, hb, hml, hown, hts⟩ (mt_X1_requireWord l dC dI cA s.heap.size 1 (by first | omega | (simp only [List.length_append, List.length_cons, List.length_nil, List.length_set, turnL_len]; omega))) (va_cwS 1 hts gX1_end_X1_requireWord rfl rfl rfl hdX1_requireWord ⟨Nat.le_of_ble_eq_true rfl, Nat.le_of_ble_eq_true rfl⟩) hP hK hD [] (by decide) rfl rfl hl.1 rfl (Nat.le_of_ble_eq_true rfl) dX1_end_1 (Nat.zero_le _) (Nat.zero_le _) ?_
  refine lv_aload_n hx hb dX1_end_4 rfl (lv_at hl 0 rfl) ?_
  refine lv_iload_n hx hb dX1_end_5 rfl (lv_at hl 2 rfl) ?_
  refine g_RVv (As := [.int x]) (rest := []) ⟨hx, hb, hml, hown, hts⟩ (mt_X1_requireRope l dC dI cA s.heap.size x0 r0 r1 r2 r3 (nI rn) x h0 h1) (cwV 1 hts gX1_end_X1_requireRope rfl rfl rfl hdX1_requireRope ⟨Nat.le_of_ble_eq_true rfl, Nat.le_of_ble_eq_true rfl⟩) hP hK hD [0] (by decide) rfl (va_recv hK hP (ci := 1) (q0 := 0) rfl rfl) rfl hl.1 rfl (Nat.le_of_ble_eq_true rfl) dX1_end_6 (Nat.zero_le _) (Nat.zero_le _) ?_
  refine lv_aload_n hx hb dX1_end_9 rfl (lv_at hl 0 rfl) ?_
  refine lv_iload_n hx hb dX1_end_10 rfl (lv_at hl 1 rfl) ?_
  refine g_RVr (As := [.int (nI 1)]) (rest := []) ⟨hx, hb, hml, hown, hts⟩ (mt_X1_rowOf1 l dC dI cA s.heap.size x0 r0 r1 r2 r3 (nI rn)) (cwV 1 hts gX1_end_X1_rowOf rfl rfl rfl hdX1_rowOf ⟨Nat.le_of_ble_eq_true rfl, Nat.le_of_ble_eq_true rfl⟩) hP hK hD [0] (by decide) rfl (va_recv hK hP (ci := 1) (q0 := 0) rfl rfl) rfl hl.1 rfl (Nat.le_of_ble_eq_true rfl) dX1_end_11 (Nat.zero_le _) (Nat.zero_le _) ?_
  refine lv_iload_n hx hb dX1_end_14 rfl (lv_at hl 2 rfl) ?_
  refine g_RSi (As := [.ref r1, .int x]) (rest := []) ⟨hx, hb, hml, hown, hts⟩ (mt_X1_placeAtEnd l dC dI cA s.heap.size r1 a1 L f x hR) (va_cwS 2 hts gX1_end_X1_placeAtEnd rfl rfl rfl hdX1_placeAtEnd ⟨Nat.le_of_ble_eq_true rfl, Nat.le_of_ble_eq_true rfl⟩) hP hK hD [1, 2] (by decide) rfl rfl hl.1 rfl (Nat.le_of_ble_eq_true rfl) dX1_end_15 (Nat.zero_le _) (Nat.zero_le _) ?_
  exact g_endRi hx hb hr hlocks dX1_end_18 rfl

abbrev mt_X1_crosses1_rm : Room := { frames := 3, cells := 0, slots := 0, locals := 71 }
set_option maxHeartbeats 4000000 in
set_option maxRecDepth 100000 in
/-- crosses -/
theorem mt_X1_crosses1 (l : Launch) (dC : Nat → ClassId) (dI : Nat → Nat → Nat) (cA : ClassId) (sz : Nat) (x0 : Nat) (r0 : Nat) (r1 : Nat) (r2 : Nat) (r3 : Nat) (rn : Nat) (a1 : Nat) (L : List Int32) (f : Nat → Int32) (x : Int32) (y : Int32) (hR : RI L f) (h0 : ¬ x < 0) (h1 : x < nI rn) (h2 : ¬ y < 0) (h3 : y < nI rn) (h4 : ¬ x = y) : Met l yX1_crosses wsX1_crosses mt_X1_crosses1_rm (va_Pc [.ref x0, .int (nI 1), .int x, .int y] (gB (dC, dI) [(cA, .int)] [(x0, .inr (1, [.ref r0, .ref r1, .ref r2, .ref r3, .int (nI rn)])), (r1, .inr (0, [.ref a1, .int (nI L.length)])), (a1, .inl (cA, (100, .inl f)))] sz)) (gR (some (.int (crS L x y L.length)))) 0 0 (fun _ => False) := by
  refine g_ofR (cc := cX1_crosses) (maxL := 4) (ret := (some .int)) (by decide) rfl (Nat.le_of_ble_eq_true rfl) (fun p e s m below meth c ls hx hb hr hml hts hown hlocks hP hK hl hD => ?_)
  have hS : va_S (fun _ => True) s.heap s.heap [] := va_S.rf
  have hl : lv_has ls 4 [(0, .ref x0), (1, .int (nI 1)), (2, .int x), (3, .int y)] := hl
  have hL := hR.1
  refine lv_iload_n hx hb dX1_crosses_0 rfl (lv_at hl 1 rfl) ?_
  refine g_RSv (As := [.int (nI 1)]) (rest := []) ⟨hx, hb, hml, hown, hts⟩ (mt_X1_requireWord l dC dI cA s.heap.size 1 (by first | omega | (simp only [List.length_append, List.length_cons, List.length_nil, List.length_set, turnL_len]; omega))) (va_cwS 1 hts gX1_crosses_X1_requireWord rfl rfl rfl hdX1_requireWord ⟨Nat.le_of_ble_eq_true rfl, Nat.le_of_ble_eq_true rfl⟩) hP hK hD [] (by decide) rfl rfl hl.1 rfl (Nat.le_of_ble_eq_true rfl) dX1_crosses_1 (Nat.zero_le _) (Nat.zero_le _) ?_
  refine lv_aload_n hx hb dX1_crosses_4 rfl (lv_at hl 0 rfl) ?_
  refine lv_iload_n hx hb dX1_crosses_5 rfl (lv_at hl 2 rfl) ?_
  refine g_RVv (As := [.int x]) (rest := []) ⟨hx, hb, hml, hown, hts⟩ (mt_X1_requireRope l dC dI cA s.heap.size x0 r0 r1 r2 r3 (nI rn) x h0 h1) (cwV 1 hts gX1_crosses_X1_requireRope rfl rfl rfl hdX1_requireRope ⟨Nat.le_of_ble_eq_true rfl, Nat.le_of_ble_eq_true rfl⟩) hP hK hD [0] (by decide) rfl (va_recv hK hP (ci := 1) (q0 := 0) rfl rfl) rfl hl.1 rfl (Nat.le_of_ble_eq_true rfl) dX1_crosses_6 (Nat.zero_le _) (Nat.zero_le _) ?_
  refine lv_aload_n hx hb dX1_crosses_9 rfl (lv_at hl 0 rfl) ?_
  refine lv_iload_n hx hb dX1_crosses_10 rfl (lv_at hl 3 rfl) ?_
  refine g_RVv (As := [.int y]) (rest := []) ⟨hx, hb, hml, hown, hts⟩ (mt_X1_requireRope l dC dI cA s.heap.size x0 r0 r1 r2 r3 (nI rn) y h2 h3) (cwV 1 hts gX1_crosses_X1_requireRope rfl rfl rfl hdX1_requireRope ⟨Nat.le_of_ble_eq_true rfl, Nat.le_of_ble_eq_true rfl⟩) hP hK hD [0] (by decide) rfl (va_recv hK hP (ci := 1) (q0 := 0) rfl rfl) rfl hl.1 rfl (Nat.le_of_ble_eq_true rfl) dX1_crosses_11 (Nat.zero_le _) (Nat.zero_le _) ?_
  refine lv_iload_n hx hb dX1_crosses_14 rfl (lv_at hl 2 rfl) ?_
  refine lv_iload_n hx hb dX1_crosses_15 rfl (lv_at hl 3 rfl) ?_
  refine lv_icmp_ne (tgt := 29) hx hb dX1_crosses_16 (by decide) (fun c16 => ?_) (fun c16 => ?_)
  · refine lv_aload_n hx hb dX1_crosses_29 rfl (lv_at hl 0 rfl) ?_
    refine lv_iload_n hx hb dX1_crosses_30 rfl (lv_at hl 1 rfl) ?_
    refine g_RVr (As := [.int (nI 1)]) (rest := []) ⟨hx, hb, hml, hown, hts⟩ (mt_X1_rowOf1 l dC dI cA s.heap.size x0 r0 r1 r2 r3 (nI rn)) (cwV 1 hts gX1_crosses_X1_rowOf rfl rfl rfl hdX1_rowOf ⟨Nat.le_of_ble_eq_true rfl, Nat.le_of_ble_eq_true rfl⟩) hP hK hD [0] (by decide) rfl (va_recv hK hP (ci := 1) (q0 := 0) rfl rfl) rfl hl.1 rfl (Nat.le_of_ble_eq_true rfl) dX1_crosses_31 (Nat.zero_le _) (Nat.zero_le _) ?_
    refine lv_iload_n hx hb dX1_crosses_34 rfl (lv_at hl 2 rfl) ?_
    refine lv_iload_n hx hb dX1_crosses_35 rfl (lv_at hl 3 rfl) ?_
    refine g_RSi (As := [.ref r1, .int x, .int y]) (rest := []) ⟨hx, hb, hml, hown, hts⟩ (mt_X1_signsOfCrossings l dC dI cA s.heap.size r1 a1 L f x y hR) (va_cwS 3 hts gX1_crosses_X1_signsOfCrossings rfl rfl rfl hdX1_signsOfCrossings ⟨Nat.le_of_ble_eq_true rfl, Nat.le_of_ble_eq_true rfl⟩) hP hK hD [1, 2] (by decide) rfl rfl hl.1 rfl (Nat.le_of_ble_eq_true rfl) dX1_crosses_36 (Nat.zero_le _) (Nat.zero_le _) ?_
    exact g_endRi hx hb hr hlocks dX1_crosses_39 rfl
  · exact absurd c16 h4

abbrev mt_X1_handle1_rm : Room := { frames := 4, cells := 0, slots := 0, locals := 91 }
set_option maxHeartbeats 4000000 in
set_option maxRecDepth 100000 in
/-- handle -/
theorem mt_X1_handle1 (l : Launch) (dC : Nat → ClassId) (dI : Nat → Nat → Nat) (cA : ClassId) (sz : Nat) (x0 : Nat) (r0 : Nat) (r1 : Nat) (r2 : Nat) (r3 : Nat) (rn : Nat) (a1 : Nat) (L : List Int32) (f : Nat → Int32) (q : Nat) (hR : RI L f) (hq : q < 3) : Met l yX1_handle wsX1_handle mt_X1_handle1_rm (va_Pc [.ref x0, .int (nI 1), .int (nI q)] (gB (dC, dI) [(cA, .int)] [(x0, .inr (1, [.ref r0, .ref r1, .ref r2, .ref r3, .int (nI rn)])), (r1, .inr (0, [.ref a1, .int (nI L.length)])), (a1, .inl (cA, (100, .inl f)))] sz)) (gR (some (.int (haL L q)))) 0 0 (fun _ => False) := by
  refine g_ofR (cc := cX1_handle) (maxL := 3) (ret := (some .int)) (by decide) rfl (Nat.le_of_ble_eq_true rfl) (fun p e s m below meth c ls hx hb hr hml hts hown hlocks hP hK hl hD => ?_)
  have hS : va_S (fun _ => True) s.heap s.heap [] := va_S.rf
  have hl : lv_has ls 3 [(0, .ref x0), (1, .int (nI 1)), (2, .int (nI q))] := hl
  have hL := hR.1
  refine lv_iload_n hx hb dX1_handle_0 rfl (lv_at hl 1 rfl) ?_
  refine g_RSv (As := [.int (nI 1)]) (rest := []) ⟨hx, hb, hml, hown, hts⟩ (mt_X1_requireWord l dC dI cA s.heap.size 1 (by first | omega | (simp only [List.length_append, List.length_cons, List.length_nil, List.length_set, turnL_len]; omega))) (va_cwS 1 hts gX1_handle_X1_requireWord rfl rfl rfl hdX1_requireWord ⟨Nat.le_of_ble_eq_true rfl, Nat.le_of_ble_eq_true rfl⟩) hP hK hD [] (by decide) rfl rfl hl.1 rfl (Nat.le_of_ble_eq_true rfl) dX1_handle_1 (Nat.zero_le _) (Nat.zero_le _) ?_
  refine lv_iload_n hx hb dX1_handle_4 rfl (lv_at hl 2 rfl) ?_
  refine lv_iconst (v := 3) hx hb dX1_handle_5 (by decide) ?_
  refine g_RSv (As := [.int (nI q), .int 3]) (rest := []) ⟨hx, hb, hml, hown, hts⟩ (mt_X1_requireAnswer l dC dI cA s.heap.size (nI q) 3 (nI_pos (by omega)) (nI_lt hq (by decide))) (va_cwS 2 hts gX1_handle_X1_requireAnswer rfl rfl rfl hdX1_requireAnswer ⟨Nat.le_of_ble_eq_true rfl, Nat.le_of_ble_eq_true rfl⟩) hP hK hD [] (by decide) rfl rfl hl.1 rfl (Nat.le_of_ble_eq_true rfl) dX1_handle_6 (Nat.zero_le _) (Nat.zero_le _) ?_
  refine lv_aload_n hx hb dX1_handle_9 rfl (lv_at hl 0 rfl) ?_
  refine lv_iload_n hx hb dX1_handle_10 rfl (lv_at hl 1 rfl) ?_
  refine g_RVr (As := [.int (nI 1)]) (rest := []) ⟨hx, hb, hml, hown, hts⟩ (mt_X1_rowOf1 l dC dI cA s.heap.size x0 r0 r1 r2 r3 (nI rn)) (cwV 1 hts gX1_handle_X1_rowOf rfl rfl rfl hdX1_rowOf ⟨Nat.le_of_ble_eq_true rfl, Nat.le_of_ble_eq_true rfl⟩) hP hK hD [0] (by decide) rfl (va_recv hK hP (ci := 1) (q0 := 0) rfl rfl) rfl hl.1 rfl (Nat.le_of_ble_eq_true rfl) dX1_handle_11 (Nat.zero_le _) (Nat.zero_le _) ?_
  refine lv_iload_n hx hb dX1_handle_14 rfl (lv_at hl 2 rfl) ?_
  refine g_RSi (As := [.ref r1, .int (nI q)]) (rest := []) ⟨hx, hb, hml, hown, hts⟩ (mt_X1_handleAnswer l dC dI cA s.heap.size r1 a1 L f q hR (by first | omega | (simp only [List.length_append, List.length_cons, List.length_nil, List.length_set, turnL_len]; omega))) (va_cwS 2 hts gX1_handle_X1_handleAnswer rfl rfl rfl hdX1_handleAnswer ⟨Nat.le_of_ble_eq_true rfl, Nat.le_of_ble_eq_true rfl⟩) hP hK hD [1, 2] (by decide) rfl rfl hl.1 rfl (Nat.le_of_ble_eq_true rfl) dX1_handle_15 (Nat.zero_le _) (Nat.zero_le _) ?_
  exact g_endRi hx hb hr hlocks dX1_handle_18 rfl

abbrev mt_X1_plain1_rm : Room := { frames := 4, cells := 0, slots := 0, locals := 95 }
set_option maxHeartbeats 4000000 in
set_option maxRecDepth 100000 in
/-- plain -/
theorem mt_X1_plain1 (l : Launch) (dC : Nat → ClassId) (dI : Nat → Nat → Nat) (cA : ClassId) (sz : Nat) (x0 : Nat) (r0 : Nat) (r1 : Nat) (r2 : Nat) (r3 : Nat) (rn : Nat) (a1 : Nat) (L : List Int32) (f : Nat → Int32) (a2 : Nat) (n2 : Int32) (f2 : Nat → Int32) (a3 : Nat) (n3 : Int32) (f3 : Nat → Int32) (q : Nat) (hR : RI L f) (hq : q < 4) : Met l yX1_plain wsX1_plain mt_X1_plain1_rm (va_Pc [.ref x0, .int (nI 1), .int (nI q)] (gB (dC, dI) [(cA, .int)] [(x0, .inr (1, [.ref r0, .ref r1, .ref r2, .ref r3, .int (nI rn)])), (r1, .inr (0, [.ref a1, .int (nI L.length)])), (a1, .inl (cA, (100, .inl f))), (r2, .inr (0, [.ref a2, .int n2])), (a2, .inl (cA, (100, .inl f2))), (r3, .inr (0, [.ref a3, .int n3])), (a3, .inl (cA, (100, .inl f3)))] sz)) (gM (dC, dI) (some (.int (paI (plain L) q))) (fun u : Int32 × (Nat → Int32) × Int32 × (Nat → Int32) => True) (fun u : Int32 × (Nat → Int32) × Int32 × (Nat → Int32) => [(x0, .inr (1, [.ref r0, .ref r1, .ref r2, .ref r3, .int (nI rn)])), (r1, .inr (0, [.ref a1, .int (nI L.length)])), (a1, .inl (cA, (100, .inl f))), (r2, .inr (0, [.ref a2, .int u.1])), (a2, .inl (cA, (100, .inl u.2.1))), (r3, .inr (0, [.ref a3, .int u.2.2.1])), (a3, .inl (cA, (100, .inl u.2.2.2)))]) (va_A [(x0, .inr (1, [.ref r0, .ref r1, .ref r2, .ref r3, .int (nI rn)])), (r1, .inr (0, [.ref a1, .int (nI L.length)])), (a1, .inl (cA, (100, .inl f))), (r2, .inr (0, [.ref a2, .int n2])), (a2, .inl (cA, (100, .inl f2))), (r3, .inr (0, [.ref a3, .int n3])), (a3, .inl (cA, (100, .inl f3)))] sz)) 0 0 (va_A [(x0, .inr (1, [.ref r0, .ref r1, .ref r2, .ref r3, .int (nI rn)])), (r1, .inr (0, [.ref a1, .int (nI L.length)])), (a1, .inl (cA, (100, .inl f))), (r2, .inr (0, [.ref a2, .int n2])), (a2, .inl (cA, (100, .inl f2))), (r3, .inr (0, [.ref a3, .int n3])), (a3, .inl (cA, (100, .inl f3)))] sz) := by
  refine g_ofM (cc := cX1_plain) (maxL := 3) (ret := (some .int)) (by decide) rfl (Nat.le_of_ble_eq_true rfl) (fun p e s m below meth c ls hx hb hr hml hts hown hlocks hP hK hl hin A hA hD hS => ?_)
  have hl : lv_has ls 3 [(0, .ref x0), (1, .int (nI 1)), (2, .int (nI q))] := hl
  have hL := hR.1
  refine lv_iload_n hx hb dX1_plain_0 rfl (lv_at hl 1 rfl) ?_
  refine g_RSv (As := [.int (nI 1)]) (rest := []) ⟨hx, hb, hml, hown, hts⟩ (mt_X1_requireWord l dC dI cA s.heap.size 1 (by first | omega | (simp only [List.length_append, List.length_cons, List.length_nil, List.length_set, turnL_len]; omega))) (va_cwS 1 hts gX1_plain_X1_requireWord rfl rfl rfl hdX1_requireWord ⟨Nat.le_of_ble_eq_true rfl, Nat.le_of_ble_eq_true rfl⟩) hP hK hD [] (by decide) rfl rfl hl.1 rfl (Nat.le_of_ble_eq_true rfl) dX1_plain_1 (Nat.zero_le _) (Nat.zero_le _) ?_
  refine lv_iload_n hx hb dX1_plain_4 rfl (lv_at hl 2 rfl) ?_
  refine lv_iconst (v := 4) hx hb dX1_plain_5 (by decide) ?_
  refine g_RSv (As := [.int (nI q), .int 4]) (rest := []) ⟨hx, hb, hml, hown, hts⟩ (mt_X1_requireAnswer l dC dI cA s.heap.size (nI q) 4 (nI_pos (by omega)) (nI_lt hq (by decide))) (va_cwS 2 hts gX1_plain_X1_requireAnswer rfl rfl rfl hdX1_requireAnswer ⟨Nat.le_of_ble_eq_true rfl, Nat.le_of_ble_eq_true rfl⟩) hP hK hD [] (by decide) rfl rfl hl.1 rfl (Nat.le_of_ble_eq_true rfl) dX1_plain_6 (Nat.zero_le _) (Nat.zero_le _) ?_
  refine lv_aload_n hx hb dX1_plain_9 rfl (lv_at hl 0 rfl) ?_
  refine va_get (D := (dC, dI)) (ci := 1) (v := .ref r2) (C := RX1) (T := TX1) (N := 5) hx hb hts (in_X1_plain_1) hown hK hP 0 rfl rfl 2 (by decide) (hts (.fieldLink RX1 19 "BraidWords" "thought" "LBraidWords$Row;") (List.mem_of_getElem? (i := 1) rfl)) (fun _ h9 => h9) rfl dX1_plain_10 ?_
  refine lv_aload_n hx hb dX1_plain_13 rfl (lv_at hl 0 rfl) ?_
  refine lv_iload_n hx hb dX1_plain_14 rfl (lv_at hl 1 rfl) ?_
  refine g_RVr (As := [.int (nI 1)]) (rest := [.ref r2]) ⟨hx, hb, hml, hown, hts⟩ (mt_X1_rowOf1 l dC dI cA s.heap.size x0 r0 r1 r2 r3 (nI rn)) (cwV 1 hts gX1_plain_X1_rowOf rfl rfl rfl hdX1_rowOf ⟨Nat.le_of_ble_eq_true rfl, Nat.le_of_ble_eq_true rfl⟩) hP hK hD [0] (by decide) rfl (va_recv hK hP (ci := 1) (q0 := 0) rfl rfl) rfl hl.1 rfl (Nat.le_of_ble_eq_true rfl) dX1_plain_15 (Nat.zero_le _) (Nat.zero_le _) ?_
  refine g_MVv (As := [.ref r1]) (rest := []) ⟨hx, hb, hml, hown, hts⟩ (mt_X0_copy l dC dI cA s.heap.size r2 a2 r1 a1 n2 f2 L f hR) (cwV 1 hts gX1_plain_X0_copy rfl rfl rfl hdX0_copy ⟨Nat.le_of_ble_eq_true rfl, Nat.le_of_ble_eq_true rfl⟩) hP hK hD hS hA [3, 4, 1, 2] (by decide) rfl (va_recv hK hP (ci := 0) (q0 := 3) rfl rfl) rfl hl.1 rfl (Nat.le_of_ble_eq_true rfl) dX1_plain_18 (Nat.zero_le _) (Nat.zero_le _) (fun u9 => [(x0, .inr (1, [.ref r0, .ref r1, .ref r2, .ref r3, .int (nI rn)])), (r1, .inr (0, [.ref a1, .int (nI L.length)])), (a1, .inl (cA, (100, .inl f))), (r2, .inr (0, [.ref a2, .int (nI L.length)])), (a2, .inl (cA, (100, .inl u9))), (r3, .inr (0, [.ref a3, .int n3])), (a3, .inl (cA, (100, .inl f3)))]) (fun _ => rfl) (fun _ => rfl) (fun u H locs hw_2 hP hD hS => ?_)
  obtain ⟨f3_1, rfl⟩ : ∃ z, z = u := ⟨_, rfl⟩
  have hw_2 : RI L f3_1 := hw_2
  have hP : va_P (dC, dI) vwCl [(x0, .inr (1, [.ref r0, .ref r1, .ref r2, .ref r3, .int (nI rn)])), (r1, .inr (0, [.ref a1, .int (nI L.length)])), (a1, .inl (cA, (100, .inl f))), (r2, .inr (0, [.ref a2, .int (nI L.length)])), (a2, .inl (cA, (100, .inl f3_1))), (r3, .inr (0, [.ref a3, .int n3])), (a3, .inl (cA, (100, .inl f3)))] H := hP
  have hD : va_D A [(x0, .inr (1, [.ref r0, .ref r1, .ref r2, .ref r3, .int (nI rn)])), (r1, .inr (0, [.ref a1, .int (nI L.length)])), (a1, .inl (cA, (100, .inl f))), (r2, .inr (0, [.ref a2, .int (nI L.length)])), (a2, .inl (cA, (100, .inl f3_1))), (r3, .inr (0, [.ref a3, .int n3])), (a3, .inl (cA, (100, .inl f3)))] := hD
  refine lv_aload_n hx hb dX1_plain_21 rfl (lv_at hl 0 rfl) ?_
  refine lv_aload_n hx hb dX1_plain_22 rfl (lv_at hl 0 rfl) ?_
  refine g_MVi (As := []) (rest := [.ref x0]) ⟨hx, hb, hml, hown, hts⟩ (mt_X1_makeThoughtPlain l dC dI cA H.size x0 r0 r1 r2 r3 (nI rn) a2 a3 L f3_1 n3 f3 hw_2) (cwV 0 hts gX1_plain_X1_makeThoughtPlain rfl rfl rfl hdX1_makeThoughtPlain ⟨Nat.le_of_ble_eq_true rfl, Nat.le_of_ble_eq_true rfl⟩) hP hK hD hS hA [0, 3, 4, 5, 6] (by decide) rfl (va_recv hK hP (ci := 1) (q0 := 0) rfl rfl) rfl hl.1 rfl (Nat.le_of_ble_eq_true rfl) dX1_plain_23 (Nat.zero_le _) (Nat.zero_le _) (fun u9 => [(x0, .inr (1, [.ref r0, .ref r1, .ref r2, .ref r3, .int (nI rn)])), (r1, .inr (0, [.ref a1, .int (nI L.length)])), (a1, .inl (cA, (100, .inl f))), (r2, .inr (0, [.ref a2, .int (nI u9.1.length)])), (a2, .inl (cA, (100, .inl u9.2.1))), (r3, .inr (0, [.ref a3, .int u9.2.2.1])), (a3, .inl (cA, (100, .inl u9.2.2.2)))]) (fun _ => rfl) (fun _ => rfl) (fun u H locs hw_7 hP hD hS => ?_)
  obtain ⟨Lt_3, ft_4, n1_5, f1_6⟩ := u
  have hw_7 : RI Lt_3 ft_4 ∧ ∀ z, plain L = some z → Lt_3 = z.2 := hw_7
  have hP : va_P (dC, dI) vwCl [(x0, .inr (1, [.ref r0, .ref r1, .ref r2, .ref r3, .int (nI rn)])), (r1, .inr (0, [.ref a1, .int (nI L.length)])), (a1, .inl (cA, (100, .inl f))), (r2, .inr (0, [.ref a2, .int (nI Lt_3.length)])), (a2, .inl (cA, (100, .inl ft_4))), (r3, .inr (0, [.ref a3, .int n1_5])), (a3, .inl (cA, (100, .inl f1_6)))] H := hP
  have hD : va_D A [(x0, .inr (1, [.ref r0, .ref r1, .ref r2, .ref r3, .int (nI rn)])), (r1, .inr (0, [.ref a1, .int (nI L.length)])), (a1, .inl (cA, (100, .inl f))), (r2, .inr (0, [.ref a2, .int (nI Lt_3.length)])), (a2, .inl (cA, (100, .inl ft_4))), (r3, .inr (0, [.ref a3, .int n1_5])), (a3, .inl (cA, (100, .inl f1_6)))] := hD
  refine lv_iload_n hx hb dX1_plain_26 rfl (lv_at hl 2 rfl) ?_
  refine g_RVi (As := [.int (cuI (plain L)), .int (nI q)]) (rest := []) ⟨hx, hb, hml, hown, hts⟩ (mt_X1_plainAnswer l dC dI cA H.size x0 r0 r1 r2 r3 (nI rn) a2 Lt_3 ft_4 (plain L) q hw_7.1 (fun z hz => ⟨hw_7.2 z hz, (plain_small' (by first | omega | (simp only [List.length_append, List.length_cons, List.length_nil, turnL_len]; omega)) hz).1⟩) (by first | omega | (simp only [List.length_append, List.length_cons, List.length_nil, List.length_set, turnL_len]; omega))) (cwV 2 hts gX1_plain_X1_plainAnswer rfl rfl rfl hdX1_plainAnswer ⟨Nat.le_of_ble_eq_true rfl, Nat.le_of_ble_eq_true rfl⟩) hP hK hD [0, 3, 4] (by decide) rfl (va_recv hK hP (ci := 1) (q0 := 0) rfl rfl) rfl hl.1 rfl (Nat.le_of_ble_eq_true rfl) dX1_plain_27 (Nat.zero_le _) (Nat.zero_le _) ?_
  exact g_endMi hx hb hr hlocks hP hS dX1_plain_30 (nI Lt_3.length, ft_4, n1_5, f1_6) rfl rfl trivial

abbrev mt_X1_advise1_rm : Room := { frames := 6, cells := 0, slots := 0, locals := 144 }
abbrev mt_X1_count_rm : Room := { frames := 3, cells := 0, slots := 0, locals := 64 }
set_option maxHeartbeats 4000000 in
set_option maxRecDepth 100000 in
/-- count -/
theorem mt_X1_count (l : Launch) (dC : Nat → ClassId) (dI : Nat → Nat → Nat) (cA : ClassId) (sz : Nat) (x0 : Nat) (r0 : Nat) (r1 : Nat) (r2 : Nat) (r3 : Nat) (rn : Nat) (a0 : Nat) (a1 : Nat) (L0 : List Int32) (f0 : Nat → Int32) (L1 : List Int32) (f1 : Nat → Int32) (q : Nat) (hR0 : RI L0 f0) (hR1 : RI L1 f1) (hq : q < 5) : Met l yX1_count wsX1_count mt_X1_count_rm (va_Pc [.ref x0, .int (nI q)] (gB (dC, dI) [(cA, .int)] [(x0, .inr (1, [.ref r0, .ref r1, .ref r2, .ref r3, .int (nI rn)])), (r0, .inr (0, [.ref a0, .int (nI L0.length)])), (a0, .inl (cA, (100, .inl f0))), (r1, .inr (0, [.ref a1, .int (nI L1.length)])), (a1, .inl (cA, (100, .inl f1)))] sz)) (gR (some (.int (coI rn L0 L1 q)))) 0 0 (fun _ => False) := by
  refine g_ofR (cc := cX1_count) (maxL := 2) (ret := (some .int)) (by decide) rfl (Nat.le_of_ble_eq_true rfl) (fun p e s m below meth c ls hx hb hr hml hts hown hlocks hP hK hl hD => ?_)
  have hS : va_S (fun _ => True) s.heap s.heap [] := va_S.rf
  have hl : lv_has ls 2 [(0, .ref x0), (1, .int (nI q))] := hl
  refine lv_iload_n hx hb dX1_count_0 rfl (lv_at hl 1 rfl) ?_
  refine lv_iconst (v := 5) hx hb dX1_count_1 (by decide) ?_
  refine g_RSv (As := [.int (nI q), .int 5]) (rest := []) ⟨hx, hb, hml, hown, hts⟩ (mt_X1_requireAnswer l dC dI cA s.heap.size (nI q) 5 (nI_pos (by omega)) (nI_lt hq (by decide))) (va_cwS 2 hts gX1_count_X1_requireAnswer rfl rfl rfl hdX1_requireAnswer ⟨Nat.le_of_ble_eq_true rfl, Nat.le_of_ble_eq_true rfl⟩) hP hK hD [] (by decide) rfl rfl hl.1 rfl (Nat.le_of_ble_eq_true rfl) dX1_count_2 (Nat.zero_le _) (Nat.zero_le _) ?_
  refine lv_aload_n hx hb dX1_count_5 rfl (lv_at hl 0 rfl) ?_
  refine lv_iload_n hx hb dX1_count_6 rfl (lv_at hl 1 rfl) ?_
  refine g_RVi (As := [.int (nI q)]) (rest := []) ⟨hx, hb, hml, hown, hts⟩ (mt_X1_countAnswer l dC dI cA s.heap.size x0 r0 r1 r2 r3 rn a0 a1 L0 f0 L1 f1 q hR0 hR1 (by first | omega | (simp only [List.length_append, List.length_cons, List.length_nil, List.length_set, turnL_len]; omega))) (cwV 1 hts gX1_count_X1_countAnswer rfl rfl rfl hdX1_countAnswer ⟨Nat.le_of_ble_eq_true rfl, Nat.le_of_ble_eq_true rfl⟩) hP hK hD [0, 1, 2, 3, 4] (by decide) rfl (va_recv hK hP (ci := 1) (q0 := 0) rfl rfl) rfl hl.1 rfl (Nat.le_of_ble_eq_true rfl) dX1_count_7 (Nat.zero_le _) (Nat.zero_le _) ?_
  exact g_endRi hx hb hr hlocks dX1_count_10 rfl

abbrev mt_X1_same_rm : Room := { frames := 4, cells := 0, slots := 0, locals := 95 }
set_option maxHeartbeats 4000000 in
set_option maxRecDepth 100000 in
/-- same -/
theorem mt_X1_same (l : Launch) (dC : Nat → ClassId) (dI : Nat → Nat → Nat) (cA : ClassId) (sz : Nat) (x0 : Nat) (r0 : Nat) (r1 : Nat) (r2 : Nat) (r3 : Nat) (rn : Nat) (a0 : Nat) (a1 : Nat) (L0 : List Int32) (f0 : Nat → Int32) (L1 : List Int32) (f1 : Nat → Int32) (a2 : Nat) (n2 : Int32) (f2 : Nat → Int32) (a3 : Nat) (n3 : Int32) (f3 : Nat → Int32) (hR0 : RI L0 f0) (hR1 : RI L1 f1) (hlen : L0.length + L1.length ≤ 100) : Met l yX1_same wsX1_same mt_X1_same_rm (va_Pc [.ref x0] (gB (dC, dI) [(cA, .int)] [(x0, .inr (1, [.ref r0, .ref r1, .ref r2, .ref r3, .int (nI rn)])), (r0, .inr (0, [.ref a0, .int (nI L0.length)])), (a0, .inl (cA, (100, .inl f0))), (r1, .inr (0, [.ref a1, .int (nI L1.length)])), (a1, .inl (cA, (100, .inl f1))), (r2, .inr (0, [.ref a2, .int n2])), (a2, .inl (cA, (100, .inl f2))), (r3, .inr (0, [.ref a3, .int n3])), (a3, .inl (cA, (100, .inl f3)))] sz)) (gM (dC, dI) (some (.int (saI (plain (turnL L0 ++ L1))))) (fun u : Int32 × (Nat → Int32) × Int32 × (Nat → Int32) => True) (fun u : Int32 × (Nat → Int32) × Int32 × (Nat → Int32) => [(x0, .inr (1, [.ref r0, .ref r1, .ref r2, .ref r3, .int (nI rn)])), (r0, .inr (0, [.ref a0, .int (nI L0.length)])), (a0, .inl (cA, (100, .inl f0))), (r1, .inr (0, [.ref a1, .int (nI L1.length)])), (a1, .inl (cA, (100, .inl f1))), (r2, .inr (0, [.ref a2, .int u.1])), (a2, .inl (cA, (100, .inl u.2.1))), (r3, .inr (0, [.ref a3, .int u.2.2.1])), (a3, .inl (cA, (100, .inl u.2.2.2)))]) (va_A [(x0, .inr (1, [.ref r0, .ref r1, .ref r2, .ref r3, .int (nI rn)])), (r0, .inr (0, [.ref a0, .int (nI L0.length)])), (a0, .inl (cA, (100, .inl f0))), (r1, .inr (0, [.ref a1, .int (nI L1.length)])), (a1, .inl (cA, (100, .inl f1))), (r2, .inr (0, [.ref a2, .int n2])), (a2, .inl (cA, (100, .inl f2))), (r3, .inr (0, [.ref a3, .int n3])), (a3, .inl (cA, (100, .inl f3)))] sz)) 0 0 (va_A [(x0, .inr (1, [.ref r0, .ref r1, .ref r2, .ref r3, .int (nI rn)])), (r0, .inr (0, [.ref a0, .int (nI L0.length)])), (a0, .inl (cA, (100, .inl f0))), (r1, .inr (0, [.ref a1, .int (nI L1.length)])), (a1, .inl (cA, (100, .inl f1))), (r2, .inr (0, [.ref a2, .int n2])), (a2, .inl (cA, (100, .inl f2))), (r3, .inr (0, [.ref a3, .int n3])), (a3, .inl (cA, (100, .inl f3)))] sz) := by
  refine g_ofM (cc := cX1_same) (maxL := 1) (ret := (some .int)) (by decide) rfl (Nat.le_of_ble_eq_true rfl) (fun p e s m below meth c ls hx hb hr hml hts hown hlocks hP hK hl hin A hA hD hS => ?_)
  have hl : lv_has ls 1 [(0, .ref x0)] := hl
  refine lv_aload_n hx hb dX1_same_0 rfl (lv_at hl 0 rfl) ?_
  refine g_MVv (As := []) (rest := []) ⟨hx, hb, hml, hown, hts⟩ (mt_X1_thinkOfDifference l dC dI cA s.heap.size x0 r0 r1 r2 r3 (nI rn) a0 a1 a2 L0 f0 L1 f1 n2 f2 hR0 hR1 (by first | omega | (simp only [List.length_append, List.length_cons, List.length_nil, List.length_set, turnL_len]; omega))) (cwV 0 hts gX1_same_X1_thinkOfDifference rfl rfl rfl hdX1_thinkOfDifference ⟨Nat.le_of_ble_eq_true rfl, Nat.le_of_ble_eq_true rfl⟩) hP hK hD hS hA [0, 1, 2, 3, 4, 5, 6] (by decide) rfl (va_recv hK hP (ci := 1) (q0 := 0) rfl rfl) rfl hl.1 rfl (Nat.le_of_ble_eq_true rfl) dX1_same_1 (Nat.zero_le _) (Nat.zero_le _) (fun u9 => [(x0, .inr (1, [.ref r0, .ref r1, .ref r2, .ref r3, .int (nI rn)])), (r0, .inr (0, [.ref a0, .int (nI L0.length)])), (a0, .inl (cA, (100, .inl f0))), (r1, .inr (0, [.ref a1, .int (nI L1.length)])), (a1, .inl (cA, (100, .inl f1))), (r2, .inr (0, [.ref a2, .int (nI ((turnL L0 ++ L1).length))])), (a2, .inl (cA, (100, .inl u9))), (r3, .inr (0, [.ref a3, .int n3])), (a3, .inl (cA, (100, .inl f3)))]) (fun _ => rfl) (fun _ => rfl) (fun u H locs hw_2 hP hD hS => ?_)
  obtain ⟨f3_1, rfl⟩ : ∃ z, z = u := ⟨_, rfl⟩
  have hw_2 : RI (turnL L0 ++ L1) f3_1 := hw_2
  have hP : va_P (dC, dI) vwCl [(x0, .inr (1, [.ref r0, .ref r1, .ref r2, .ref r3, .int (nI rn)])), (r0, .inr (0, [.ref a0, .int (nI L0.length)])), (a0, .inl (cA, (100, .inl f0))), (r1, .inr (0, [.ref a1, .int (nI L1.length)])), (a1, .inl (cA, (100, .inl f1))), (r2, .inr (0, [.ref a2, .int (nI ((turnL L0 ++ L1).length))])), (a2, .inl (cA, (100, .inl f3_1))), (r3, .inr (0, [.ref a3, .int n3])), (a3, .inl (cA, (100, .inl f3)))] H := hP
  have hD : va_D A [(x0, .inr (1, [.ref r0, .ref r1, .ref r2, .ref r3, .int (nI rn)])), (r0, .inr (0, [.ref a0, .int (nI L0.length)])), (a0, .inl (cA, (100, .inl f0))), (r1, .inr (0, [.ref a1, .int (nI L1.length)])), (a1, .inl (cA, (100, .inl f1))), (r2, .inr (0, [.ref a2, .int (nI ((turnL L0 ++ L1).length))])), (a2, .inl (cA, (100, .inl f3_1))), (r3, .inr (0, [.ref a3, .int n3])), (a3, .inl (cA, (100, .inl f3)))] := hD
  refine lv_aload_n hx hb dX1_same_4 rfl (lv_at hl 0 rfl) ?_
  refine lv_aload_n hx hb dX1_same_5 rfl (lv_at hl 0 rfl) ?_
  refine g_MVi (As := []) (rest := [.ref x0]) ⟨hx, hb, hml, hown, hts⟩ (mt_X1_makeThoughtPlain l dC dI cA H.size x0 r0 r1 r2 r3 (nI rn) a2 a3 (turnL L0 ++ L1) f3_1 n3 f3 hw_2) (cwV 0 hts gX1_same_X1_makeThoughtPlain rfl rfl rfl hdX1_makeThoughtPlain ⟨Nat.le_of_ble_eq_true rfl, Nat.le_of_ble_eq_true rfl⟩) hP hK hD hS hA [0, 5, 6, 7, 8] (by decide) rfl (va_recv hK hP (ci := 1) (q0 := 0) rfl rfl) rfl hl.1 rfl (Nat.le_of_ble_eq_true rfl) dX1_same_6 (Nat.zero_le _) (Nat.zero_le _) (fun u9 => [(x0, .inr (1, [.ref r0, .ref r1, .ref r2, .ref r3, .int (nI rn)])), (r0, .inr (0, [.ref a0, .int (nI L0.length)])), (a0, .inl (cA, (100, .inl f0))), (r1, .inr (0, [.ref a1, .int (nI L1.length)])), (a1, .inl (cA, (100, .inl f1))), (r2, .inr (0, [.ref a2, .int (nI u9.1.length)])), (a2, .inl (cA, (100, .inl u9.2.1))), (r3, .inr (0, [.ref a3, .int u9.2.2.1])), (a3, .inl (cA, (100, .inl u9.2.2.2)))]) (fun _ => rfl) (fun _ => rfl) (fun u H locs hw_7 hP hD hS => ?_)
  obtain ⟨Lt_3, ft_4, n1_5, f1_6⟩ := u
  have hw_7 : RI Lt_3 ft_4 ∧ ∀ z, plain (turnL L0 ++ L1) = some z → Lt_3 = z.2 := hw_7
  have hP : va_P (dC, dI) vwCl [(x0, .inr (1, [.ref r0, .ref r1, .ref r2, .ref r3, .int (nI rn)])), (r0, .inr (0, [.ref a0, .int (nI L0.length)])), (a0, .inl (cA, (100, .inl f0))), (r1, .inr (0, [.ref a1, .int (nI L1.length)])), (a1, .inl (cA, (100, .inl f1))), (r2, .inr (0, [.ref a2, .int (nI Lt_3.length)])), (a2, .inl (cA, (100, .inl ft_4))), (r3, .inr (0, [.ref a3, .int n1_5])), (a3, .inl (cA, (100, .inl f1_6)))] H := hP
  have hD : va_D A [(x0, .inr (1, [.ref r0, .ref r1, .ref r2, .ref r3, .int (nI rn)])), (r0, .inr (0, [.ref a0, .int (nI L0.length)])), (a0, .inl (cA, (100, .inl f0))), (r1, .inr (0, [.ref a1, .int (nI L1.length)])), (a1, .inl (cA, (100, .inl f1))), (r2, .inr (0, [.ref a2, .int (nI Lt_3.length)])), (a2, .inl (cA, (100, .inl ft_4))), (r3, .inr (0, [.ref a3, .int n1_5])), (a3, .inl (cA, (100, .inl f1_6)))] := hD
  refine g_RVi (As := [.int (cuI (plain (turnL L0 ++ L1)))]) (rest := []) ⟨hx, hb, hml, hown, hts⟩ (mt_X1_sameAnswer l dC dI cA H.size x0 r0 r1 r2 r3 (nI rn) a2 Lt_3 ft_4 (plain (turnL L0 ++ L1)) hw_7.1 (fun z hz => ⟨hw_7.2 z hz, (plain_small' (by rw [List.length_append, turnL_len]; omega) hz).1⟩)) (cwV 1 hts gX1_same_X1_sameAnswer rfl rfl rfl hdX1_sameAnswer ⟨Nat.le_of_ble_eq_true rfl, Nat.le_of_ble_eq_true rfl⟩) hP hK hD [0, 5, 6] (by decide) rfl (va_recv hK hP (ci := 1) (q0 := 0) rfl rfl) rfl hl.1 rfl (Nat.le_of_ble_eq_true rfl) dX1_same_9 (Nat.zero_le _) (Nat.zero_le _) ?_
  exact g_endMi hx hb hr hlocks hP hS dX1_same_12 (nI Lt_3.length, ft_4, n1_5, f1_6) rfl rfl trivial

abbrev mt_X1_ahead_rm : Room := { frames := 4, cells := 0, slots := 0, locals := 95 }
set_option maxHeartbeats 4000000 in
set_option maxRecDepth 100000 in
/-- ahead -/
theorem mt_X1_ahead (l : Launch) (dC : Nat → ClassId) (dI : Nat → Nat → Nat) (cA : ClassId) (sz : Nat) (x0 : Nat) (r0 : Nat) (r1 : Nat) (r2 : Nat) (r3 : Nat) (rn : Nat) (a0 : Nat) (a1 : Nat) (L0 : List Int32) (f0 : Nat → Int32) (L1 : List Int32) (f1 : Nat → Int32) (a2 : Nat) (n2 : Int32) (f2 : Nat → Int32) (a3 : Nat) (n3 : Int32) (f3 : Nat → Int32) (hR0 : RI L0 f0) (hR1 : RI L1 f1) (hlen : L0.length + L1.length ≤ 100) : Met l yX1_ahead wsX1_ahead mt_X1_ahead_rm (va_Pc [.ref x0] (gB (dC, dI) [(cA, .int)] [(x0, .inr (1, [.ref r0, .ref r1, .ref r2, .ref r3, .int (nI rn)])), (r0, .inr (0, [.ref a0, .int (nI L0.length)])), (a0, .inl (cA, (100, .inl f0))), (r1, .inr (0, [.ref a1, .int (nI L1.length)])), (a1, .inl (cA, (100, .inl f1))), (r2, .inr (0, [.ref a2, .int n2])), (a2, .inl (cA, (100, .inl f2))), (r3, .inr (0, [.ref a3, .int n3])), (a3, .inl (cA, (100, .inl f3)))] sz)) (gM (dC, dI) (some (.int (paI (plain (turnL L0 ++ L1)) 2))) (fun u : Int32 × (Nat → Int32) × Int32 × (Nat → Int32) => True) (fun u : Int32 × (Nat → Int32) × Int32 × (Nat → Int32) => [(x0, .inr (1, [.ref r0, .ref r1, .ref r2, .ref r3, .int (nI rn)])), (r0, .inr (0, [.ref a0, .int (nI L0.length)])), (a0, .inl (cA, (100, .inl f0))), (r1, .inr (0, [.ref a1, .int (nI L1.length)])), (a1, .inl (cA, (100, .inl f1))), (r2, .inr (0, [.ref a2, .int u.1])), (a2, .inl (cA, (100, .inl u.2.1))), (r3, .inr (0, [.ref a3, .int u.2.2.1])), (a3, .inl (cA, (100, .inl u.2.2.2)))]) (va_A [(x0, .inr (1, [.ref r0, .ref r1, .ref r2, .ref r3, .int (nI rn)])), (r0, .inr (0, [.ref a0, .int (nI L0.length)])), (a0, .inl (cA, (100, .inl f0))), (r1, .inr (0, [.ref a1, .int (nI L1.length)])), (a1, .inl (cA, (100, .inl f1))), (r2, .inr (0, [.ref a2, .int n2])), (a2, .inl (cA, (100, .inl f2))), (r3, .inr (0, [.ref a3, .int n3])), (a3, .inl (cA, (100, .inl f3)))] sz)) 0 0 (va_A [(x0, .inr (1, [.ref r0, .ref r1, .ref r2, .ref r3, .int (nI rn)])), (r0, .inr (0, [.ref a0, .int (nI L0.length)])), (a0, .inl (cA, (100, .inl f0))), (r1, .inr (0, [.ref a1, .int (nI L1.length)])), (a1, .inl (cA, (100, .inl f1))), (r2, .inr (0, [.ref a2, .int n2])), (a2, .inl (cA, (100, .inl f2))), (r3, .inr (0, [.ref a3, .int n3])), (a3, .inl (cA, (100, .inl f3)))] sz) := by
  refine g_ofM (cc := cX1_ahead) (maxL := 1) (ret := (some .int)) (by decide) rfl (Nat.le_of_ble_eq_true rfl) (fun p e s m below meth c ls hx hb hr hml hts hown hlocks hP hK hl hin A hA hD hS => ?_)
  have hl : lv_has ls 1 [(0, .ref x0)] := hl
  refine lv_aload_n hx hb dX1_ahead_0 rfl (lv_at hl 0 rfl) ?_
  refine g_MVv (As := []) (rest := []) ⟨hx, hb, hml, hown, hts⟩ (mt_X1_thinkOfDifference l dC dI cA s.heap.size x0 r0 r1 r2 r3 (nI rn) a0 a1 a2 L0 f0 L1 f1 n2 f2 hR0 hR1 (by first | omega | (simp only [List.length_append, List.length_cons, List.length_nil, List.length_set, turnL_len]; omega))) (cwV 0 hts gX1_ahead_X1_thinkOfDifference rfl rfl rfl hdX1_thinkOfDifference ⟨Nat.le_of_ble_eq_true rfl, Nat.le_of_ble_eq_true rfl⟩) hP hK hD hS hA [0, 1, 2, 3, 4, 5, 6] (by decide) rfl (va_recv hK hP (ci := 1) (q0 := 0) rfl rfl) rfl hl.1 rfl (Nat.le_of_ble_eq_true rfl) dX1_ahead_1 (Nat.zero_le _) (Nat.zero_le _) (fun u9 => [(x0, .inr (1, [.ref r0, .ref r1, .ref r2, .ref r3, .int (nI rn)])), (r0, .inr (0, [.ref a0, .int (nI L0.length)])), (a0, .inl (cA, (100, .inl f0))), (r1, .inr (0, [.ref a1, .int (nI L1.length)])), (a1, .inl (cA, (100, .inl f1))), (r2, .inr (0, [.ref a2, .int (nI ((turnL L0 ++ L1).length))])), (a2, .inl (cA, (100, .inl u9))), (r3, .inr (0, [.ref a3, .int n3])), (a3, .inl (cA, (100, .inl f3)))]) (fun _ => rfl) (fun _ => rfl) (fun u H locs hw_2 hP hD hS => ?_)
  obtain ⟨f3_1, rfl⟩ : ∃ z, z = u := ⟨_, rfl⟩
  have hw_2 : RI (turnL L0 ++ L1) f3_1 := hw_2
  have hP : va_P (dC, dI) vwCl [(x0, .inr (1, [.ref r0, .ref r1, .ref r2, .ref r3, .int (nI rn)])), (r0, .inr (0, [.ref a0, .int (nI L0.length)])), (a0, .inl (cA, (100, .inl f0))), (r1, .inr (0, [.ref a1, .int (nI L1.length)])), (a1, .inl (cA, (100, .inl f1))), (r2, .inr (0, [.ref a2, .int (nI ((turnL L0 ++ L1).length))])), (a2, .inl (cA, (100, .inl f3_1))), (r3, .inr (0, [.ref a3, .int n3])), (a3, .inl (cA, (100, .inl f3)))] H := hP
  have hD : va_D A [(x0, .inr (1, [.ref r0, .ref r1, .ref r2, .ref r3, .int (nI rn)])), (r0, .inr (0, [.ref a0, .int (nI L0.length)])), (a0, .inl (cA, (100, .inl f0))), (r1, .inr (0, [.ref a1, .int (nI L1.length)])), (a1, .inl (cA, (100, .inl f1))), (r2, .inr (0, [.ref a2, .int (nI ((turnL L0 ++ L1).length))])), (a2, .inl (cA, (100, .inl f3_1))), (r3, .inr (0, [.ref a3, .int n3])), (a3, .inl (cA, (100, .inl f3)))] := hD
  refine lv_aload_n hx hb dX1_ahead_4 rfl (lv_at hl 0 rfl) ?_
  refine lv_aload_n hx hb dX1_ahead_5 rfl (lv_at hl 0 rfl) ?_
  refine g_MVi (As := []) (rest := [.ref x0]) ⟨hx, hb, hml, hown, hts⟩ (mt_X1_makeThoughtPlain l dC dI cA H.size x0 r0 r1 r2 r3 (nI rn) a2 a3 (turnL L0 ++ L1) f3_1 n3 f3 hw_2) (cwV 0 hts gX1_ahead_X1_makeThoughtPlain rfl rfl rfl hdX1_makeThoughtPlain ⟨Nat.le_of_ble_eq_true rfl, Nat.le_of_ble_eq_true rfl⟩) hP hK hD hS hA [0, 5, 6, 7, 8] (by decide) rfl (va_recv hK hP (ci := 1) (q0 := 0) rfl rfl) rfl hl.1 rfl (Nat.le_of_ble_eq_true rfl) dX1_ahead_6 (Nat.zero_le _) (Nat.zero_le _) (fun u9 => [(x0, .inr (1, [.ref r0, .ref r1, .ref r2, .ref r3, .int (nI rn)])), (r0, .inr (0, [.ref a0, .int (nI L0.length)])), (a0, .inl (cA, (100, .inl f0))), (r1, .inr (0, [.ref a1, .int (nI L1.length)])), (a1, .inl (cA, (100, .inl f1))), (r2, .inr (0, [.ref a2, .int (nI u9.1.length)])), (a2, .inl (cA, (100, .inl u9.2.1))), (r3, .inr (0, [.ref a3, .int u9.2.2.1])), (a3, .inl (cA, (100, .inl u9.2.2.2)))]) (fun _ => rfl) (fun _ => rfl) (fun u H locs hw_7 hP hD hS => ?_)
  obtain ⟨Lt_3, ft_4, n1_5, f1_6⟩ := u
  have hw_7 : RI Lt_3 ft_4 ∧ ∀ z, plain (turnL L0 ++ L1) = some z → Lt_3 = z.2 := hw_7
  have hP : va_P (dC, dI) vwCl [(x0, .inr (1, [.ref r0, .ref r1, .ref r2, .ref r3, .int (nI rn)])), (r0, .inr (0, [.ref a0, .int (nI L0.length)])), (a0, .inl (cA, (100, .inl f0))), (r1, .inr (0, [.ref a1, .int (nI L1.length)])), (a1, .inl (cA, (100, .inl f1))), (r2, .inr (0, [.ref a2, .int (nI Lt_3.length)])), (a2, .inl (cA, (100, .inl ft_4))), (r3, .inr (0, [.ref a3, .int n1_5])), (a3, .inl (cA, (100, .inl f1_6)))] H := hP
  have hD : va_D A [(x0, .inr (1, [.ref r0, .ref r1, .ref r2, .ref r3, .int (nI rn)])), (r0, .inr (0, [.ref a0, .int (nI L0.length)])), (a0, .inl (cA, (100, .inl f0))), (r1, .inr (0, [.ref a1, .int (nI L1.length)])), (a1, .inl (cA, (100, .inl f1))), (r2, .inr (0, [.ref a2, .int (nI Lt_3.length)])), (a2, .inl (cA, (100, .inl ft_4))), (r3, .inr (0, [.ref a3, .int n1_5])), (a3, .inl (cA, (100, .inl f1_6)))] := hD
  refine g_RVi (As := [.int (cuI (plain (turnL L0 ++ L1)))]) (rest := []) ⟨hx, hb, hml, hown, hts⟩ (mt_X1_signAnswer l dC dI cA H.size x0 r0 r1 r2 r3 (nI rn) a2 Lt_3 ft_4 (plain (turnL L0 ++ L1)) hw_7.1 (fun z hz => ⟨hw_7.2 z hz, (plain_small' (by rw [List.length_append, turnL_len]; omega) hz).1⟩)) (cwV 1 hts gX1_ahead_X1_signAnswer rfl rfl rfl hdX1_signAnswer ⟨Nat.le_of_ble_eq_true rfl, Nat.le_of_ble_eq_true rfl⟩) hP hK hD [0, 5, 6] (by decide) rfl (va_recv hK hP (ci := 1) (q0 := 0) rfl rfl) rfl hl.1 rfl (Nat.le_of_ble_eq_true rfl) dX1_ahead_9 (Nat.zero_le _) (Nat.zero_le _) ?_
  exact g_endMi hx hb hr hlocks hP hS dX1_ahead_12 (nI Lt_3.length, ft_4, n1_5, f1_6) rfl rfl trivial

abbrev mt_X1_digest_rm : Room := { frames := 5, cells := 0, slots := 0, locals := 122 }