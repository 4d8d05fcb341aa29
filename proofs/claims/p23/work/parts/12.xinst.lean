set_option maxRecDepth 20000 in
theorem in_X1_rowOf_1 : ∀ w ∈ wsX10, w ∈ wsX1_rowOf := by decide +kernel
set_option maxRecDepth 20000 in
theorem in_X1_cutHandle_1 : ∀ w ∈ wsX10, w ∈ wsX1_cutHandle := by decide +kernel
set_option maxRecDepth 20000 in
theorem in_X1_makeThoughtPlain_1 : ∀ w ∈ wsX10, w ∈ wsX1_makeThoughtPlain := by decide +kernel
set_option maxRecDepth 20000 in
theorem in_X1_thinkOfDifference_1 : ∀ w ∈ wsX10, w ∈ wsX1_thinkOfDifference := by decide +kernel
set_option maxRecDepth 20000 in
theorem in_X1_plainAnswer_1 : ∀ w ∈ wsX10, w ∈ wsX1_plainAnswer := by decide +kernel
set_option maxRecDepth 20000 in
theorem in_X1_sameAnswer_1 : ∀ w ∈ wsX10, w ∈ wsX1_sameAnswer := by decide +kernel
set_option maxRecDepth 20000 in
theorem in_X1_countAnswer_1 : ∀ w ∈ wsX10, w ∈ wsX1_countAnswer := by decide +kernel
theorem hdX0_addAll : yX0_addAll.cls = RX0 ∧ yX0_addAll.cls ≠ "java/lang/invoke/MethodHandle" ∧ yX0_addAll.cls ≠ "java/lang/invoke/VarHandle" ∧ (parseMethodDescriptor yX0_addAll.desc).map (fun d => d.parameters.length) = some 1 := by decide +kernel
theorem hdX0_addTurnedRound : yX0_addTurnedRound.cls = RX0 ∧ yX0_addTurnedRound.cls ≠ "java/lang/invoke/MethodHandle" ∧ yX0_addTurnedRound.cls ≠ "java/lang/invoke/VarHandle" ∧ (parseMethodDescriptor yX0_addTurnedRound.desc).map (fun d => d.parameters.length) = some 1 := by decide +kernel
theorem hdX0_clear : yX0_clear.cls = RX0 ∧ yX0_clear.cls ≠ "java/lang/invoke/MethodHandle" ∧ yX0_clear.cls ≠ "java/lang/invoke/VarHandle" ∧ (parseMethodDescriptor yX0_clear.desc).map (fun d => d.parameters.length) = some 0 := by decide +kernel
theorem hdX0_copy : yX0_copy.cls = RX0 ∧ yX0_copy.cls ≠ "java/lang/invoke/MethodHandle" ∧ yX0_copy.cls ≠ "java/lang/invoke/VarHandle" ∧ (parseMethodDescriptor yX0_copy.desc).map (fun d => d.parameters.length) = some 1 := by decide +kernel
theorem hdX1_cutHandle : yX1_cutHandle.cls = RX1 ∧ yX1_cutHandle.cls ≠ "java/lang/invoke/MethodHandle" ∧ yX1_cutHandle.cls ≠ "java/lang/invoke/VarHandle" ∧ (parseMethodDescriptor yX1_cutHandle.desc).map (fun d => d.parameters.length) = some 3 := by decide +kernel
theorem hdX1_handleAnswer : yX1_handleAnswer.cls ≠ "java/lang/invoke/MethodHandle" ∧ yX1_handleAnswer.cls ≠ "java/lang/invoke/VarHandle" ∧ (parseMethodDescriptor yX1_handleAnswer.desc).map (fun d => d.parameters.length) = some 2 := by decide +kernel
theorem hdX1_lowestLetter : yX1_lowestLetter.cls ≠ "java/lang/invoke/MethodHandle" ∧ yX1_lowestLetter.cls ≠ "java/lang/invoke/VarHandle" ∧ (parseMethodDescriptor yX1_lowestLetter.desc).map (fun d => d.parameters.length) = some 1 := by decide +kernel
theorem hdX1_makeThoughtPlain : yX1_makeThoughtPlain.cls = RX1 ∧ yX1_makeThoughtPlain.cls ≠ "java/lang/invoke/MethodHandle" ∧ yX1_makeThoughtPlain.cls ≠ "java/lang/invoke/VarHandle" ∧ (parseMethodDescriptor yX1_makeThoughtPlain.desc).map (fun d => d.parameters.length) = some 0 := by decide +kernel
theorem hdX1_placeAtEnd : yX1_placeAtEnd.cls ≠ "java/lang/invoke/MethodHandle" ∧ yX1_placeAtEnd.cls ≠ "java/lang/invoke/VarHandle" ∧ (parseMethodDescriptor yX1_placeAtEnd.desc).map (fun d => d.parameters.length) = some 2 := by decide +kernel
theorem hdX1_plainAnswer : yX1_plainAnswer.cls = RX1 ∧ yX1_plainAnswer.cls ≠ "java/lang/invoke/MethodHandle" ∧ yX1_plainAnswer.cls ≠ "java/lang/invoke/VarHandle" ∧ (parseMethodDescriptor yX1_plainAnswer.desc).map (fun d => d.parameters.length) = some 2 := by decide +kernel
theorem hdX1_signsAdded : yX1_signsAdded.cls ≠ "java/lang/invoke/MethodHandle" ∧ yX1_signsAdded.cls ≠ "java/lang/invoke/VarHandle" ∧ (parseMethodDescriptor yX1_signsAdded.desc).map (fun d => d.parameters.length) = some 1 := by decide +kernel
abbrev mt_X1_rowOf0_rm : Room := { frames := 0, cells := 0, slots := 0, locals := 0 }
set_option maxHeartbeats 4000000 in
set_option maxRecDepth 100000 in
/-- rowOf(0) -/
theorem mt_X1_rowOf0 (l : Launch) (dC : Nat → ClassId) (dI : Nat → Nat → Nat) (cA : ClassId) (sz : Nat) (x0 : Nat) (r0 : Nat) (r1 : Nat) (r2 : Nat) (r3 : Nat) (R9 : Int32) : Met l yX1_rowOf wsX1_rowOf mt_X1_rowOf0_rm (va_Pc [.ref x0, .int (nI 0)] (gB (dC, dI) [(cA, .int)] [(x0, .inr (1, [.ref r0, .ref r1, .ref r2, .ref r3, .int R9]))] sz)) (gR (some (.ref r0))) 0 0 (fun _ => False) := by
  refine g_ofR (cc := cX1_rowOf) (maxL := 2) (ret := (some (.object "BraidWords$Row"))) (by decide) rfl (Nat.le_of_ble_eq_true rfl) (fun p e s m below meth c ls hx hb hr hml hts hown hlocks hP hK hl hD => ?_)
  have hS : va_S (fun _ => True) s.heap s.heap [] := va_S.rf
  have hl : lv_has ls 2 [(0, .ref x0), (1, .int (nI 0))] := hl
  refine lv_iload_n hx hb dX1_rowOf_0 rfl (lv_at hl 1 rfl) ?_
  refine lv_if_ne (tgt := 11) hx hb dX1_rowOf_1 (by decide) (fun c1 => ?_) (fun c1 => ?_)
  · exact absurd (g_neT 0 0 (by omega) (by omega) c1) (by omega)
  · have c1 : 0 = 0 := g_neF 0 0 (by omega) (by omega) c1
    refine lv_aload_n hx hb dX1_rowOf_4 rfl (lv_at hl 0 rfl) ?_
    refine va_get (D := (dC, dI)) (ci := 1) (v := .ref r0) (C := RX1) (T := TX1) (N := 5) hx hb hts (in_X1_rowOf_1) hown hK hP 0 rfl rfl 0 (by decide) (hts (.fieldLink RX1 10 "BraidWords" "word0" "LBraidWords$Row;") (List.mem_of_getElem? (i := 1) rfl)) (fun _ h9 => h9) rfl dX1_rowOf_5 ?_
    refine lv_goto (tgt := 15) hx hb dX1_rowOf_8 (by decide) ?_
    exact g_endRr hx hb hr hlocks dX1_rowOf_15 rfl

abbrev mt_X1_rowOf1_rm : Room := { frames := 0, cells := 0, slots := 0, locals := 0 }
set_option maxHeartbeats 4000000 in
set_option maxRecDepth 100000 in
/-- rowOf(1) -/
theorem mt_X1_rowOf1 (l : Launch) (dC : Nat → ClassId) (dI : Nat → Nat → Nat) (cA : ClassId) (sz : Nat) (x0 : Nat) (r0 : Nat) (r1 : Nat) (r2 : Nat) (r3 : Nat) (R9 : Int32) : Met l yX1_rowOf wsX1_rowOf mt_X1_rowOf1_rm (va_Pc [.ref x0, .int (nI 1)] (gB (dC, dI) [(cA, .int)] [(x0, .inr (1, [.ref r0, .ref r1, .ref r2, .ref r3, .int R9]))] sz)) (gR (some (.ref r1))) 0 0 (fun _ => False) := by
  refine g_ofR (cc := cX1_rowOf) (maxL := 2) (ret := (some (.object "BraidWords$Row"))) (by decide) rfl (Nat.le_of_ble_eq_true rfl) (fun p e s m below meth c ls hx hb hr hml hts hown hlocks hP hK hl hD => ?_)
  have hS : va_S (fun _ => True) s.heap s.heap [] := va_S.rf
  have hl : lv_has ls 2 [(0, .ref x0), (1, .int (nI 1))] := hl
  refine lv_iload_n hx hb dX1_rowOf_0 rfl (lv_at hl 1 rfl) ?_
  refine lv_if_ne (tgt := 11) hx hb dX1_rowOf_1 (by decide) (fun c1 => ?_) (fun c1 => ?_)
  · have c1 : ¬ 1 = 0 := g_neT 1 0 (by omega) (by omega) c1
    refine lv_aload_n hx hb dX1_rowOf_11 rfl (lv_at hl 0 rfl) ?_
    refine va_get (D := (dC, dI)) (ci := 1) (v := .ref r1) (C := RX1) (T := TX1) (N := 5) hx hb hts (in_X1_rowOf_1) hown hK hP 0 rfl rfl 1 (by decide) (hts (.fieldLink RX1 16 "BraidWords" "word1" "LBraidWords$Row;") (List.mem_of_getElem? (i := 2) rfl)) (fun _ h9 => h9) rfl dX1_rowOf_12 ?_
    exact g_endRr hx hb hr hlocks dX1_rowOf_15 rfl
  · exact absurd (g_neF 1 0 (by omega) (by omega) c1) (by omega)

abbrev mt_X1_cutHandle_rm : Room := { frames := 2, cells := 0, slots := 0, locals := 44 }
set_option maxHeartbeats 4000000 in
set_option maxRecDepth 100000 in
/-- cutHandle -/
theorem mt_X1_cutHandle (l : Launch) (dC : Nat → ClassId) (dI : Nat → Nat → Nat) (cA : ClassId) (sz : Nat) (x0 : Nat) (r0 : Nat) (r1 : Nat) (r2 : Nat) (r3 : Nat) (R9 : Int32) (h : Nat) (a : Nat) (as9 : Nat) (L : List Int32) (f : Nat → Int32) (ns : Int32) (fs : Nat → Int32) (b : Nat) (e9 : Nat) (hR : RI L f) (hbe : b < e9) (he9 : e9 < L.length) (hlen : (cutL L b e9).length ≤ 100) : Met l yX1_cutHandle wsX1_cutHandle mt_X1_cutHandle_rm (va_Pc [.ref x0, .ref h, .int (nI b), .int (nI e9)] (gB (dC, dI) [(cA, .int)] [(x0, .inr (1, [.ref r0, .ref r1, .ref r2, .ref r3, .int R9])), (h, .inr (0, [.ref a, .int (nI L.length)])), (a, .inl (cA, (100, .inl f))), (r3, .inr (0, [.ref as9, .int ns])), (as9, .inl (cA, (100, .inl fs)))] sz)) (gM (dC, dI) none (fun u : (Nat → Int32) × (Nat → Int32) => RI (cutL L b e9) u.1) (fun u : (Nat → Int32) × (Nat → Int32) => [(x0, .inr (1, [.ref r0, .ref r1, .ref r2, .ref r3, .int R9])), (h, .inr (0, [.ref a, .int (nI ((cutL L b e9).length))])), (a, .inl (cA, (100, .inl u.1))), (r3, .inr (0, [.ref as9, .int (nI ((cutL L b e9).length))])), (as9, .inl (cA, (100, .inl u.2)))]) (va_A [(x0, .inr (1, [.ref r0, .ref r1, .ref r2, .ref r3, .int R9])), (h, .inr (0, [.ref a, .int (nI L.length)])), (a, .inl (cA, (100, .inl f))), (r3, .inr (0, [.ref as9, .int ns])), (as9, .inl (cA, (100, .inl fs)))] sz)) 0 0 (va_A [(x0, .inr (1, [.ref r0, .ref r1, .ref r2, .ref r3, .int R9])), (h, .inr (0, [.ref a, .int (nI L.length)])), (a, .inl (cA, (100, .inl f))), (r3, .inr (0, [.ref as9, .int ns])), (as9, .inl (cA, (100, .inl fs)))] sz) := by
  refine g_ofM (cc := cX1_cutHandle) (maxL := 8) (ret := none) (by decide) rfl (Nat.le_of_ble_eq_true rfl) (fun p e s m below meth c ls hx hb hr hml hts hown hlocks hP hK hl hin A hA hD hS => ?_)
  have hl : lv_has ls 8 [(0, .ref x0), (1, .ref h), (2, .int (nI b)), (3, .int (nI e9))] := hl
  have hL := hR.1
  refine lv_aload_n hx hb dX1_cutHandle_0 rfl (lv_at hl 1 rfl) ?_
  refine lv_iload_n hx hb dX1_cutHandle_1 rfl (lv_at hl 2 rfl) ?_
  refine g_RVi (As := [.int (nI b)]) (rest := []) ⟨hx, hb, hml, hown, hts⟩ (mt_X0_at l dC dI cA s.heap.size h a L f b hR (by first | omega | (simp only [List.length_append, List.length_cons, List.length_nil, List.length_set, turnL_len]; omega))) (cwV 1 hts gX1_cutHandle_X0_at rfl rfl rfl hdX0_at ⟨Nat.le_of_ble_eq_true rfl, Nat.le_of_ble_eq_true rfl⟩) hP hK hD [1, 2] (by decide) rfl (va_recv hK hP (ci := 0) (q0 := 1) rfl rfl) rfl hl.1 rfl (Nat.le_of_ble_eq_true rfl) dX1_cutHandle_2 (Nat.zero_le _) (Nat.zero_le _) ?_
  refine lv_istore (lv' := [(4, .int (atL L b)), (0, .ref x0), (1, .ref h), (2, .int (nI b)), (3, .int (nI e9))]) hx hb dX1_cutHandle_5 hl (by decide) rfl (fun ls hl => ?_)
  refine lv_iload hx hb dX1_cutHandle_7 (lv_at hl 0 rfl) ?_
  refine g_RSi (As := [.int (atL L b)]) (rest := []) ⟨hx, hb, hml, hown, hts⟩ (mt_X1_heightOf l dC dI cA s.heap.size (atL L b)) (va_cwS 1 hts gX1_cutHandle_X1_heightOf rfl rfl rfl hdX1_heightOf ⟨Nat.le_of_ble_eq_true rfl, Nat.le_of_ble_eq_true rfl⟩) hP hK hD [] (by decide) rfl rfl hl.1 rfl (Nat.le_of_ble_eq_true rfl) dX1_cutHandle_9 (Nat.zero_le _) (Nat.zero_le _) ?_
  refine lv_iconst (v := 1) hx hb dX1_cutHandle_12 (by decide) ?_
  refine lv_iadd hx hb dX1_cutHandle_13 ?_
  refine lv_istore (lv' := [(5, .int ((abI (atL L b)) + 1)), (4, .int (atL L b)), (0, .ref x0), (1, .ref h), (2, .int (nI b)), (3, .int (nI e9))]) hx hb dX1_cutHandle_14 hl (by decide) rfl (fun ls hl => ?_)
  refine lv_aload_n hx hb dX1_cutHandle_16 rfl (lv_at hl 2 rfl) ?_
  refine va_get (D := (dC, dI)) (ci := 1) (v := .ref r3) (C := RX1) (T := TX1) (N := 5) hx hb hts (in_X1_cutHandle_1) hown hK hP 0 rfl rfl 3 (by decide) (hts (.fieldLink RX1 22 "BraidWords" "spare" "LBraidWords$Row;") (List.mem_of_getElem? (i := 1) rfl)) (fun _ h9 => h9) rfl dX1_cutHandle_17 ?_
  refine g_MVv (As := []) (rest := []) ⟨hx, hb, hml, hown, hts⟩ (mt_X0_clear l dC dI cA s.heap.size r3 as9 ns fs) (cwV 0 hts gX1_cutHandle_X0_clear rfl rfl rfl hdX0_clear ⟨Nat.le_of_ble_eq_true rfl, Nat.le_of_ble_eq_true rfl⟩) hP hK hD hS hA [3, 4] (by decide) rfl (va_recv hK hP (ci := 0) (q0 := 3) rfl rfl) rfl hl.1 rfl (Nat.le_of_ble_eq_true rfl) dX1_cutHandle_20 (Nat.zero_le _) (Nat.zero_le _) (fun u9 => [(x0, .inr (1, [.ref r0, .ref r1, .ref r2, .ref r3, .int R9])), (h, .inr (0, [.ref a, .int (nI L.length)])), (a, .inl (cA, (100, .inl f))), (r3, .inr (0, [.ref as9, .int (nI (([] : List Int32).length))])), (as9, .inl (cA, (100, .inl fs)))]) (fun _ => rfl) (fun _ => rfl) (fun u H locs hw_1 hP hD hS => ?_)
  have hw_1 : True := hw_1
  have hP : va_P (dC, dI) vwCl [(x0, .inr (1, [.ref r0, .ref r1, .ref r2, .ref r3, .int R9])), (h, .inr (0, [.ref a, .int (nI L.length)])), (a, .inl (cA, (100, .inl f))), (r3, .inr (0, [.ref as9, .int (nI (([] : List Int32).length))])), (as9, .inl (cA, (100, .inl fs)))] H := hP
  have hD : va_D A [(x0, .inr (1, [.ref r0, .ref r1, .ref r2, .ref r3, .int R9])), (h, .inr (0, [.ref a, .int (nI L.length)])), (a, .inl (cA, (100, .inl f))), (r3, .inr (0, [.ref as9, .int (nI (([] : List Int32).length))])), (as9, .inl (cA, (100, .inl fs)))] := hD
  refine lv_iconst (v := 0) hx hb dX1_cutHandle_23 (by decide) ?_
  refine lv_istore (lv' := [(6, .int 0), (5, .int ((abI (atL L b)) + 1)), (4, .int (atL L b)), (0, .ref x0), (1, .ref h), (2, .int (nI b)), (3, .int (nI e9))]) hx hb dX1_cutHandle_24 hl (by decide) rfl (fun ls hl => ?_)
  have lp26 : ∀ (d : Nat) (k : Nat) (Sk : List Int32) (fk : Nat → Int32) (hk9 : k ≤ L.length) (hSk : Sk = ckL L b e9 k) (hRk : RI Sk fk), L.length - k < d → ∀ (H : Heap) (locs : List Loc), va_P (dC, dI) vwCl [(x0, .inr (1, [.ref r0, .ref r1, .ref r2, .ref r3, .int R9])), (h, .inr (0, [.ref a, .int (nI L.length)])), (a, .inl (cA, (100, .inl f))), (r3, .inr (0, [.ref as9, .int (nI Sk.length)])), (as9, .inl (cA, (100, .inl fk)))] H → va_D A [(x0, .inr (1, [.ref r0, .ref r1, .ref r2, .ref r3, .int R9])), (h, .inr (0, [.ref a, .int (nI L.length)])), (a, .inl (cA, (100, .inl f))), (r3, .inr (0, [.ref as9, .int (nI Sk.length)])), (as9, .inl (cA, (100, .inl fk)))] → va_S A s.heap H locs → ∀ ls : Array Slot, lv_has ls 8 [(6, .int (nI k)), (5, .int (abI (atL L b) + 1)), (4, .int (atL L b)), (0, .ref x0), (1, .ref h), (2, .int (nI b)), (3, .int (nI e9))] → W p l e mt_X1_cutHandle_rm s m ([.ref x0, .ref h, .int (nI b), .int (nI e9)] : List Value).toArray below meth c H locs 0 0 (MQ below (gM (dC, dI) none (fun u : (Nat → Int32) × (Nat → Int32) => RI (cutL L b e9) u.1) (fun u : (Nat → Int32) × (Nat → Int32) => [(x0, .inr (1, [.ref r0, .ref r1, .ref r2, .ref r3, .int R9])), (h, .inr (0, [.ref a, .int (nI ((cutL L b e9).length))])), (a, .inl (cA, (100, .inl u.1))), (r3, .inr (0, [.ref as9, .int (nI ((cutL L b e9).length))])), (as9, .inl (cA, (100, .inl u.2)))]) A) ([.ref x0, .ref h, .int (nI b), .int (nI e9)] : List Value).toArray s 0 0 A) (F0 m 26 ls []) := by
    intro d
    induction d with
    | zero => intro k Sk fk hk9 hSk hRk hd; exact absurd hd (Nat.not_lt_zero _)
    | succ d ih26 =>
      intro k Sk fk hk9 hSk hRk hd H locs hP hD hS ls hl
      have hskl : Sk.length ≤ 100 := by rw [hSk]; exact Nat.le_trans (ckL_mono hk9) hlen
      refine lv_iload hx hb dX1_cutHandle_26 (lv_at hl 0 rfl) ?_
      refine lv_aload_n hx hb dX1_cutHandle_28 rfl (lv_at hl 4 rfl) ?_
      refine g_RVi (As := []) (rest := [.int (nI k)]) ⟨hx, hb, hml, hown, hts⟩ (mt_X0_size l dC dI cA H.size h a (nI L.length) f) (cwV 0 hts gX1_cutHandle_X0_size rfl rfl rfl hdX0_size ⟨Nat.le_of_ble_eq_true rfl, Nat.le_of_ble_eq_true rfl⟩) hP hK hD [1, 2] (by decide) rfl (va_recv hK hP (ci := 0) (q0 := 1) rfl rfl) rfl hl.1 rfl (Nat.le_of_ble_eq_true rfl) dX1_cutHandle_29 (Nat.zero_le _) (Nat.zero_le _) ?_
      refine lv_icmp_ge (tgt := 147) hx hb dX1_cutHandle_32 (by decide) (fun c32 => ?_) (fun c32 => ?_)
      · have c32 : L.length ≤ k := g_geT k L.length (by omega) (by omega) c32
        obtain rfl : k = L.length := by omega
        obtain rfl : Sk = cutL L b e9 := hSk
        refine lv_aload_n hx hb dX1_cutHandle_147 rfl (lv_at hl 4 rfl) ?_
        refine lv_aload_n hx hb dX1_cutHandle_148 rfl (lv_at hl 3 rfl) ?_
        refine va_get (D := (dC, dI)) (ci := 1) (v := .ref r3) (C := RX1) (T := TX1) (N := 5) hx hb hts (in_X1_cutHandle_1) hown hK hP 0 rfl rfl 3 (by decide) (hts (.fieldLink RX1 22 "BraidWords" "spare" "LBraidWords$Row;") (List.mem_of_getElem? (i := 1) rfl)) (fun _ h9 => h9) rfl dX1_cutHandle_149 ?_
        refine g_MVv (As := [.ref r3]) (rest := []) ⟨hx, hb, hml, hown, hts⟩ (mt_X0_copy l dC dI cA H.size h a r3 as9 (nI L.length) f (cutL L b e9) fk hRk) (cwV 1 hts gX1_cutHandle_X0_copy rfl rfl rfl hdX0_copy ⟨Nat.le_of_ble_eq_true rfl, Nat.le_of_ble_eq_true rfl⟩) hP hK hD hS hA [1, 2, 3, 4] (by decide) rfl (va_recv hK hP (ci := 0) (q0 := 1) rfl rfl) rfl hl.1 rfl (Nat.le_of_ble_eq_true rfl) dX1_cutHandle_152 (Nat.zero_le _) (Nat.zero_le _) (fun u9 => [(x0, .inr (1, [.ref r0, .ref r1, .ref r2, .ref r3, .int R9])), (h, .inr (0, [.ref a, .int (nI (cutL L b e9).length)])), (a, .inl (cA, (100, .inl u9))), (r3, .inr (0, [.ref as9, .int (nI (cutL L b e9).length)])), (as9, .inl (cA, (100, .inl fk)))]) (fun _ => rfl) (fun _ => rfl) (fun u H locs hw_3 hP hD hS => ?_)
        obtain ⟨f3_2, rfl⟩ : ∃ z, z = u := ⟨_, rfl⟩
        have hw_3 : RI (cutL L b e9) f3_2 := hw_3
        have hP : va_P (dC, dI) vwCl [(x0, .inr (1, [.ref r0, .ref r1, .ref r2, .ref r3, .int R9])), (h, .inr (0, [.ref a, .int (nI (cutL L b e9).length)])), (a, .inl (cA, (100, .inl f3_2))), (r3, .inr (0, [.ref as9, .int (nI (cutL L b e9).length)])), (as9, .inl (cA, (100, .inl fk)))] H := hP
        have hD : va_D A [(x0, .inr (1, [.ref r0, .ref r1, .ref r2, .ref r3, .int R9])), (h, .inr (0, [.ref a, .int (nI (cutL L b e9).length)])), (a, .inl (cA, (100, .inl f3_2))), (r3, .inr (0, [.ref as9, .int (nI (cutL L b e9).length)])), (as9, .inl (cA, (100, .inl fk)))] := hD
        exact g_endMv hx hb hr hlocks hP hS dX1_cutHandle_155 (f3_2, fk) rfl hw_3
      · have c32 : k < L.length := g_geF k L.length (by omega) (by omega) c32
        refine lv_aload_n hx hb dX1_cutHandle_35 rfl (lv_at hl 4 rfl) ?_
        refine lv_iload hx hb dX1_cutHandle_36 (lv_at hl 0 rfl) ?_
        refine g_RVi (As := [.int (nI k)]) (rest := []) ⟨hx, hb, hml, hown, hts⟩ (mt_X0_at l dC dI cA H.size h a L f k hR (by first | omega | (simp only [List.length_append, List.length_cons, List.length_nil, List.length_set, turnL_len]; omega))) (cwV 1 hts gX1_cutHandle_X0_at rfl rfl rfl hdX0_at ⟨Nat.le_of_ble_eq_true rfl, Nat.le_of_ble_eq_true rfl⟩) hP hK hD [1, 2] (by decide) rfl (va_recv hK hP (ci := 0) (q0 := 1) rfl rfl) rfl hl.1 rfl (Nat.le_of_ble_eq_true rfl) dX1_cutHandle_38 (Nat.zero_le _) (Nat.zero_le _) ?_
        refine lv_istore (lv' := [(7, .int (atL L k)), (6, .int (nI k)), (5, .int (abI (atL L b) + 1)), (4, .int (atL L b)), (0, .ref x0), (1, .ref h), (2, .int (nI b)), (3, .int (nI e9))]) hx hb dX1_cutHandle_41 hl (by decide) rfl (fun ls hl => ?_)
        refine lv_iload hx hb dX1_cutHandle_43 (lv_at hl 1 rfl) ?_
        refine lv_iload_n hx hb dX1_cutHandle_45 rfl (lv_at hl 6 rfl) ?_
        refine lv_icmp_eq (tgt := 141) hx hb dX1_cutHandle_46 (by decide) (fun c46 => ?_) (fun c46 => ?_)
        · have c46 : k = b := g_eqT k b (by omega) (by omega) c46
          refine lv_iinc (v := nI (k + 1)) (lv' := [(6, .int (nI (k + 1))), (7, .int (atL L k)), (5, .int (abI (atL L b) + 1)), (4, .int (atL L b)), (0, .ref x0), (1, .ref h), (2, .int (nI b)), (3, .int (nI e9))]) hx hb dX1_cutHandle_141 hl (k := 1) rfl (g_inc _) (by decide) rfl (fun ls hl => ?_)
          refine lv_goto (tgt := 26) hx hb dX1_cutHandle_144 (by decide) ?_
          exact ih26 (k + 1) Sk fk (by omega) (by rw [hSk]; first | exact (ckL_three (by omega) (by omega) c77).symm | exact (ckL_skip (by omega)).symm | exact (ckL_one (by omega) (by omega) (fun q => absurd q.1 (by omega))).symm | exact (ckL_one (by omega) (by omega) (fun q => absurd q.2.1 (by omega))).symm | exact (ckL_one (by omega) (by omega) (fun q => c77 q.2.2)).symm) hRk (by omega) _ _ hP hD hS _ (lv_sub hl [0, 2, 3, 4, 5, 6, 7] rfl)
        · have c46 : ¬ k = b := g_eqF k b (by omega) (by omega) c46
          refine lv_iload hx hb dX1_cutHandle_49 (lv_at hl 1 rfl) ?_
          refine lv_iload_n hx hb dX1_cutHandle_51 rfl (lv_at hl 7 rfl) ?_
          refine lv_icmp_ne (tgt := 58) hx hb dX1_cutHandle_52 (by decide) (fun c52 => ?_) (fun c52 => ?_)
          · have c52 : ¬ k = e9 := g_neT k e9 (by omega) (by omega) c52
            refine lv_iload hx hb dX1_cutHandle_58 (lv_at hl 1 rfl) ?_
            refine lv_iload_n hx hb dX1_cutHandle_60 rfl (lv_at hl 6 rfl) ?_
            refine lv_icmp_le (tgt := 132) hx hb dX1_cutHandle_61 (by decide) (fun c61 => ?_) (fun c61 => ?_)
            · have c61 : k ≤ b := g_leT k b (by omega) (by omega) c61
              have hsk1 : (ckL L b e9 (k + 1)).length ≤ 100 := Nat.le_trans (ckL_mono (by omega)) hlen
              rw [(by first | exact ckL_one (by omega) (by omega) (fun q => absurd q.1 (by omega)) | exact ckL_one (by omega) (by omega) (fun q => absurd q.2.1 (by omega)) | exact ckL_one (by omega) (by omega) (fun q => c77 q.2.2) : ckL L b e9 (k + 1) = ckL L b e9 k ++ [atL L k]), ← hSk] at hsk1
              simp only [List.length_append, List.length_cons, List.length_nil] at hsk1
              refine lv_aload_n hx hb dX1_cutHandle_132 rfl (lv_at hl 4 rfl) ?_
              refine va_get (D := (dC, dI)) (ci := 1) (v := .ref r3) (C := RX1) (T := TX1) (N := 5) hx hb hts (in_X1_cutHandle_1) hown hK hP 0 rfl rfl 3 (by decide) (hts (.fieldLink RX1 22 "BraidWords" "spare" "LBraidWords$Row;") (List.mem_of_getElem? (i := 1) rfl)) (fun _ h9 => h9) rfl dX1_cutHandle_133 ?_
              refine lv_iload hx hb dX1_cutHandle_136 (lv_at hl 0 rfl) ?_
              refine g_MVv (As := [.int (atL L k)]) (rest := []) ⟨hx, hb, hml, hown, hts⟩ (mt_X0_add l dC dI cA H.size r3 as9 Sk fk (atL L k) hRk (by first | omega | (simp only [List.length_append, List.length_cons, List.length_nil, List.length_set, turnL_len]; omega))) (cwV 1 hts gX1_cutHandle_X0_add rfl rfl rfl hdX0_add ⟨Nat.le_of_ble_eq_true rfl, Nat.le_of_ble_eq_true rfl⟩) hP hK hD hS hA [3, 4] (by decide) rfl (va_recv hK hP (ci := 0) (q0 := 3) rfl rfl) rfl hl.1 rfl (Nat.le_of_ble_eq_true rfl) dX1_cutHandle_138 (Nat.zero_le _) (Nat.zero_le _) (fun u9 => [(x0, .inr (1, [.ref r0, .ref r1, .ref r2, .ref r3, .int R9])), (h, .inr (0, [.ref a, .int (nI L.length)])), (a, .inl (cA, (100, .inl f))), (r3, .inr (0, [.ref as9, .int (nI ((Sk ++ [(atL L k)]).length))])), (as9, .inl (cA, (100, .inl u9)))]) (fun _ => rfl) (fun _ => rfl) (fun u H locs hw_5 hP hD hS => ?_)
              obtain ⟨f1_4, rfl⟩ : ∃ z, z = u := ⟨_, rfl⟩
              have hw_5 : RI (Sk ++ [(atL L k)]) f1_4 := hw_5
              have hP : va_P (dC, dI) vwCl [(x0, .inr (1, [.ref r0, .ref r1, .ref r2, .ref r3, .int R9])), (h, .inr (0, [.ref a, .int (nI L.length)])), (a, .inl (cA, (100, .inl f))), (r3, .inr (0, [.ref as9, .int (nI ((Sk ++ [(atL L k)]).length))])), (as9, .inl (cA, (100, .inl f1_4)))] H := hP
              have hD : va_D A [(x0, .inr (1, [.ref r0, .ref r1, .ref r2, .ref r3, .int R9])), (h, .inr (0, [.ref a, .int (nI L.length)])), (a, .inl (cA, (100, .inl f))), (r3, .inr (0, [.ref as9, .int (nI ((Sk ++ [(atL L k)]).length))])), (as9, .inl (cA, (100, .inl f1_4)))] := hD
              refine lv_iinc (v := nI (k + 1)) (lv' := [(6, .int (nI (k + 1))), (7, .int (atL L k)), (5, .int (abI (atL L b) + 1)), (4, .int (atL L b)), (0, .ref x0), (1, .ref h), (2, .int (nI b)), (3, .int (nI e9))]) hx hb dX1_cutHandle_141 hl (k := 1) rfl (g_inc _) (by decide) rfl (fun ls hl => ?_)
              refine lv_goto (tgt := 26) hx hb dX1_cutHandle_144 (by decide) ?_
              exact ih26 (k + 1) (Sk ++ [(atL L k)]) f1_4 (by omega) (by rw [hSk]; first | exact (ckL_three (by omega) (by omega) c77).symm | exact (ckL_skip (by omega)).symm | exact (ckL_one (by omega) (by omega) (fun q => absurd q.1 (by omega))).symm | exact (ckL_one (by omega) (by omega) (fun q => absurd q.2.1 (by omega))).symm | exact (ckL_one (by omega) (by omega) (fun q => c77 q.2.2)).symm) hw_5 (by omega) _ _ hP hD hS _ (lv_sub hl [0, 2, 3, 4, 5, 6, 7] rfl)
            · have c61 : b < k := g_leF k b (by omega) (by omega) c61
              refine lv_iload hx hb dX1_cutHandle_64 (lv_at hl 1 rfl) ?_
              refine lv_iload_n hx hb dX1_cutHandle_66 rfl (lv_at hl 7 rfl) ?_
              refine lv_icmp_ge (tgt := 132) hx hb dX1_cutHandle_67 (by decide) (fun c67 => ?_) (fun c67 => ?_)
              · have c67 : e9 ≤ k := g_geT k e9 (by omega) (by omega) c67
                have hsk1 : (ckL L b e9 (k + 1)).length ≤ 100 := Nat.le_trans (ckL_mono (by omega)) hlen
                rw [(by first | exact ckL_one (by omega) (by omega) (fun q => absurd q.1 (by omega)) | exact ckL_one (by omega) (by omega) (fun q => absurd q.2.1 (by omega)) | exact ckL_one (by omega) (by omega) (fun q => c77 q.2.2) : ckL L b e9 (k + 1) = ckL L b e9 k ++ [atL L k]), ← hSk] at hsk1
                simp only [List.length_append, List.length_cons, List.length_nil] at hsk1
                refine lv_aload_n hx hb dX1_cutHandle_132 rfl (lv_at hl 4 rfl) ?_
                refine va_get (D := (dC, dI)) (ci := 1) (v := .ref r3) (C := RX1) (T := TX1) (N := 5) hx hb hts (in_X1_cutHandle_1) hown hK hP 0 rfl rfl 3 (by decide) (hts (.fieldLink RX1 22 "BraidWords" "spare" "LBraidWords$Row;") (List.mem_of_getElem? (i := 1) rfl)) (fun _ h9 => h9) rfl dX1_cutHandle_133 ?_
                refine lv_iload hx hb dX1_cutHandle_136 (lv_at hl 0 rfl) ?_
                refine g_MVv (As := [.int (atL L k)]) (rest := []) ⟨hx, hb, hml, hown, hts⟩ (mt_X0_add l dC dI cA H.size r3 as9 Sk fk (atL L k) hRk (by first | omega | (simp only [List.length_append, List.length_cons, List.length_nil, List.length_set, turnL_len]; omega))) (cwV 1 hts gX1_cutHandle_X0_add rfl rfl rfl hdX0_add ⟨Nat.le_of_ble_eq_true rfl, Nat.le_of_ble_eq_true rfl⟩) hP hK hD hS hA [3, 4] (by decide) rfl (va_recv hK hP (ci := 0) (q0 := 3) rfl rfl) rfl hl.1 rfl (Nat.le_of_ble_eq_true rfl) dX1_cutHandle_138 (Nat.zero_le _) (Nat.zero_le _) (fun u9 => [(x0, .inr (1, [.ref r0, .ref r1, .ref r2, .ref r3, .int R9])), (h, .inr (0, [.ref a, .int (nI L.length)])), (a, .inl (cA, (100, .inl f))), (r3, .inr (0, [.ref as9, .int (nI ((Sk ++ [(atL L k)]).length))])), (as9, .inl (cA, (100, .inl u9)))]) (fun _ => rfl) (fun _ => rfl) (fun u H locs hw_7 hP hD hS => ?_)
                obtain ⟨f1_6, rfl⟩ : ∃ z, z = u := ⟨_, rfl⟩
                have hw_7 : RI (Sk ++ [(atL L k)]) f1_6 := hw_7
                have hP : va_P (dC, dI) vwCl [(x0, .inr (1, [.ref r0, .ref r1, .ref r2, .ref r3, .int R9])), (h, .inr (0, [.ref a, .int (nI L.length)])), (a, .inl (cA, (100, .inl f))), (r3, .inr (0, [.ref as9, .int (nI ((Sk ++ [(atL L k)]).length))])), (as9, .inl (cA, (100, .inl f1_6)))] H := hP
                have hD : va_D A [(x0, .inr (1, [.ref r0, .ref r1, .ref r2, .ref r3, .int R9])), (h, .inr (0, [.ref a, .int (nI L.length)])), (a, .inl (cA, (100, .inl f))), (r3, .inr (0, [.ref as9, .int (nI ((Sk ++ [(atL L k)]).length))])), (as9, .inl (cA, (100, .inl f1_6)))] := hD
                refine lv_iinc (v := nI (k + 1)) (lv' := [(6, .int (nI (k + 1))), (7, .int (atL L k)), (5, .int (abI (atL L b) + 1)), (4, .int (atL L b)), (0, .ref x0), (1, .ref h), (2, .int (nI b)), (3, .int (nI e9))]) hx hb dX1_cutHandle_141 hl (k := 1) rfl (g_inc _) (by decide) rfl (fun ls hl => ?_)
                refine lv_goto (tgt := 26) hx hb dX1_cutHandle_144 (by decide) ?_
                exact ih26 (k + 1) (Sk ++ [(atL L k)]) f1_6 (by omega) (by rw [hSk]; first | exact (ckL_three (by omega) (by omega) c77).symm | exact (ckL_skip (by omega)).symm | exact (ckL_one (by omega) (by omega) (fun q => absurd q.1 (by omega))).symm | exact (ckL_one (by omega) (by omega) (fun q => absurd q.2.1 (by omega))).symm | exact (ckL_one (by omega) (by omega) (fun q => c77 q.2.2)).symm) hw_7 (by omega) _ _ hP hD hS _ (lv_sub hl [0, 2, 3, 4, 5, 6, 7] rfl)
              · have c67 : k < e9 := g_geF k e9 (by omega) (by omega) c67
                refine lv_iload hx hb dX1_cutHandle_70 (lv_at hl 0 rfl) ?_
                refine g_RSi (As := [.int (atL L k)]) (rest := []) ⟨hx, hb, hml, hown, hts⟩ (mt_X1_heightOf l dC dI cA H.size (atL L k)) (va_cwS 1 hts gX1_cutHandle_X1_heightOf rfl rfl rfl hdX1_heightOf ⟨Nat.le_of_ble_eq_true rfl, Nat.le_of_ble_eq_true rfl⟩) hP hK hD [] (by decide) rfl rfl hl.1 rfl (Nat.le_of_ble_eq_true rfl) dX1_cutHandle_72 (Nat.zero_le _) (Nat.zero_le _) ?_
                refine lv_iload hx hb dX1_cutHandle_75 (lv_at hl 2 rfl) ?_
                refine lv_icmp_ne (tgt := 132) hx hb dX1_cutHandle_77 (by decide) (fun c77 => ?_) (fun c77 => ?_)
                · have hsk1 : (ckL L b e9 (k + 1)).length ≤ 100 := Nat.le_trans (ckL_mono (by omega)) hlen
                  rw [(by first | exact ckL_one (by omega) (by omega) (fun q => absurd q.1 (by omega)) | exact ckL_one (by omega) (by omega) (fun q => absurd q.2.1 (by omega)) | exact ckL_one (by omega) (by omega) (fun q => c77 q.2.2) : ckL L b e9 (k + 1) = ckL L b e9 k ++ [atL L k]), ← hSk] at hsk1
                  simp only [List.length_append, List.length_cons, List.length_nil] at hsk1
                  refine lv_aload_n hx hb dX1_cutHandle_132 rfl (lv_at hl 4 rfl) ?_
                  refine va_get (D := (dC, dI)) (ci := 1) (v := .ref r3) (C := RX1) (T := TX1) (N := 5) hx hb hts (in_X1_cutHandle_1) hown hK hP 0 rfl rfl 3 (by decide) (hts (.fieldLink RX1 22 "BraidWords" "spare" "LBraidWords$Row;") (List.mem_of_getElem? (i := 1) rfl)) (fun _ h9 => h9) rfl dX1_cutHandle_133 ?_
                  refine lv_iload hx hb dX1_cutHandle_136 (lv_at hl 0 rfl) ?_
                  refine g_MVv (As := [.int (atL L k)]) (rest := []) ⟨hx, hb, hml, hown, hts⟩ (mt_X0_add l dC dI cA H.size r3 as9 Sk fk (atL L k) hRk (by first | omega | (simp only [List.length_append, List.length_cons, List.length_nil, List.length_set, turnL_len]; omega))) (cwV 1 hts gX1_cutHandle_X0_add rfl rfl rfl hdX0_add ⟨Nat.le_of_ble_eq_true rfl, Nat.le_of_ble_eq_true rfl⟩) hP hK hD hS hA [3, 4] (by decide) rfl (va_recv hK hP (ci := 0) (q0 := 3) rfl rfl) rfl hl.1 rfl (Nat.le_of_ble_eq_true rfl) dX1_cutHandle_138 (Nat.zero_le _) (Nat.zero_le _) (fun u9 => [(x0, .inr (1, [.ref r0, .ref r1, .ref r2, .ref r3, .int R9])), (h, .inr (0, [.ref a, .int (nI L.length)])), (a, .inl (cA, (100, .inl f))), (r3, .inr (0, [.ref as9, .int (nI ((Sk ++ [(atL L k)]).length))])), (as9, .inl (cA, (100, .inl u9)))]) (fun _ => rfl) (fun _ => rfl) (fun u H locs hw_9 hP hD hS => ?_)
                  obtain ⟨f1_8, rfl⟩ : ∃ z, z = u := ⟨_, rfl⟩
                  have hw_9 : RI (Sk ++ [(atL L k)]) f1_8 := hw_9
                  have hP : va_P (dC, dI) vwCl [(x0, .inr (1, [.ref r0, .ref r1, .ref r2, .ref r3, .int R9])), (h, .inr (0, [.ref a, .int (nI L.length)])), (a, .inl (cA, (100, .inl f))), (r3, .inr (0, [.ref as9, .int (nI ((Sk ++ [(atL L k)]).length))])), (as9, .inl (cA, (100, .inl f1_8)))] H := hP
                  have hD : va_D A [(x0, .inr (1, [.ref r0, .ref r1, .ref r2, .ref r3, .int R9])), (h, .inr (0, [.ref a, .int (nI L.length)])), (a, .inl (cA, (100, .inl f))), (r3, .inr (0, [.ref as9, .int (nI ((Sk ++ [(atL L k)]).length))])), (as9, .inl (cA, (100, .inl f1_8)))] := hD
                  refine lv_iinc (v := nI (k + 1)) (lv' := [(6, .int (nI (k + 1))), (7, .int (atL L k)), (5, .int (abI (atL L b) + 1)), (4, .int (atL L b)), (0, .ref x0), (1, .ref h), (2, .int (nI b)), (3, .int (nI e9))]) hx hb dX1_cutHandle_141 hl (k := 1) rfl (g_inc _) (by decide) rfl (fun ls hl => ?_)
                  refine lv_goto (tgt := 26) hx hb dX1_cutHandle_144 (by decide) ?_
                  exact ih26 (k + 1) (Sk ++ [(atL L k)]) f1_8 (by omega) (by rw [hSk]; first | exact (ckL_three (by omega) (by omega) c77).symm | exact (ckL_skip (by omega)).symm | exact (ckL_one (by omega) (by omega) (fun q => absurd q.1 (by omega))).symm | exact (ckL_one (by omega) (by omega) (fun q => absurd q.2.1 (by omega))).symm | exact (ckL_one (by omega) (by omega) (fun q => c77 q.2.2)).symm) hw_9 (by omega) _ _ hP hD hS _ (lv_sub hl [0, 2, 3, 4, 5, 6, 7] rfl)
                · have hsk3 : (ckL L b e9 (k + 1)).length ≤ 100 := Nat.le_trans (ckL_mono (by omega)) hlen
                  rw [ckL_three (by omega) (by omega) c77, ← hSk] at hsk3
                  simp only [List.length_append, List.length_cons, List.length_nil] at hsk3
                  refine lv_aload_n hx hb dX1_cutHandle_80 rfl (lv_at hl 4 rfl) ?_
                  refine va_get (D := (dC, dI)) (ci := 1) (v := .ref r3) (C := RX1) (T := TX1) (N := 5) hx hb hts (in_X1_cutHandle_1) hown hK hP 0 rfl rfl 3 (by decide) (hts (.fieldLink RX1 22 "BraidWords" "spare" "LBraidWords$Row;") (List.mem_of_getElem? (i := 1) rfl)) (fun _ h9 => h9) rfl dX1_cutHandle_81 ?_
                  refine lv_iload hx hb dX1_cutHandle_84 (lv_at hl 3 rfl) ?_
                  refine g_RSi (As := [.int (atL L b)]) (rest := [.ref r3]) ⟨hx, hb, hml, hown, hts⟩ (mt_X1_signOf l dC dI cA H.size (atL L b)) (va_cwS 1 hts gX1_cutHandle_X1_signOf rfl rfl rfl hdX1_signOf ⟨Nat.le_of_ble_eq_true rfl, Nat.le_of_ble_eq_true rfl⟩) hP hK hD [] (by decide) rfl rfl hl.1 rfl (Nat.le_of_ble_eq_true rfl) dX1_cutHandle_86 (Nat.zero_le _) (Nat.zero_le _) ?_
                  refine lv_ineg hx hb dX1_cutHandle_89 ?_
                  refine lv_iload hx hb dX1_cutHandle_90 (lv_at hl 2 rfl) ?_
                  refine lv_imul hx hb dX1_cutHandle_92 ?_
                  refine g_MVv (As := [.int ((-(sgI (atL L b))) * (abI (atL L b) + 1))]) (rest := []) ⟨hx, hb, hml, hown, hts⟩ (mt_X0_add l dC dI cA H.size r3 as9 Sk fk ((-(sgI (atL L b))) * (abI (atL L b) + 1)) hRk (by first | omega | (simp only [List.length_append, List.length_cons, List.length_nil, List.length_set, turnL_len]; omega))) (cwV 1 hts gX1_cutHandle_X0_add rfl rfl rfl hdX0_add ⟨Nat.le_of_ble_eq_true rfl, Nat.le_of_ble_eq_true rfl⟩) hP hK hD hS hA [3, 4] (by decide) rfl (va_recv hK hP (ci := 0) (q0 := 3) rfl rfl) rfl hl.1 rfl (Nat.le_of_ble_eq_true rfl) dX1_cutHandle_93 (Nat.zero_le _) (Nat.zero_le _) (fun u9 => [(x0, .inr (1, [.ref r0, .ref r1, .ref r2, .ref r3, .int R9])), (h, .inr (0, [.ref a, .int (nI L.length)])), (a, .inl (cA, (100, .inl f))), (r3, .inr (0, [.ref as9, .int (nI ((Sk ++ [((-(sgI (atL L b))) * (abI (atL L b) + 1))]).length))])), (as9, .inl (cA, (100, .inl u9)))]) (fun _ => rfl) (fun _ => rfl) (fun u H locs hw_11 hP hD hS => ?_)
                  obtain ⟨f1_10, rfl⟩ : ∃ z, z = u := ⟨_, rfl⟩
                  have hw_11 : RI (Sk ++ [((-(sgI (atL L b))) * (abI (atL L b) + 1))]) f1_10 := hw_11
                  have hP : va_P (dC, dI) vwCl [(x0, .inr (1, [.ref r0, .ref r1, .ref r2, .ref r3, .int R9])), (h, .inr (0, [.ref a, .int (nI L.length)])), (a, .inl (cA, (100, .inl f))), (r3, .inr (0, [.ref as9, .int (nI ((Sk ++ [((-(sgI (atL L b))) * (abI (atL L b) + 1))]).length))])), (as9, .inl (cA, (100, .inl f1_10)))] H := hP
                  have hD : va_D A [(x0, .inr (1, [.ref r0, .ref r1, .ref r2, .ref r3, .int R9])), (h, .inr (0, [.ref a, .int (nI L.length)])), (a, .inl (cA, (100, .inl f))), (r3, .inr (0, [.ref as9, .int (nI ((Sk ++ [((-(sgI (atL L b))) * (abI (atL L b) + 1))]).length))])), (as9, .inl (cA, (100, .inl f1_10)))] := hD
                  refine lv_aload_n hx hb dX1_cutHandle_96 rfl (lv_at hl 4 rfl) ?_
                  refine va_get (D := (dC, dI)) (ci := 1) (v := .ref r3) (C := RX1) (T := TX1) (N := 5) hx hb hts (in_X1_cutHandle_1) hown hK hP 0 rfl rfl 3 (by decide) (hts (.fieldLink RX1 22 "BraidWords" "spare" "LBraidWords$Row;") (List.mem_of_getElem? (i := 1) rfl)) (fun _ h9 => h9) rfl dX1_cutHandle_97 ?_
                  refine lv_iload hx hb dX1_cutHandle_100 (lv_at hl 0 rfl) ?_
                  refine g_RSi (As := [.int (atL L k)]) (rest := [.ref r3]) ⟨hx, hb, hml, hown, hts⟩ (mt_X1_signOf l dC dI cA H.size (atL L k)) (va_cwS 1 hts gX1_cutHandle_X1_signOf rfl rfl rfl hdX1_signOf ⟨Nat.le_of_ble_eq_true rfl, Nat.le_of_ble_eq_true rfl⟩) hP hK hD [] (by decide) rfl rfl hl.1 rfl (Nat.le_of_ble_eq_true rfl) dX1_cutHandle_102 (Nat.zero_le _) (Nat.zero_le _) ?_
                  refine lv_iload hx hb dX1_cutHandle_105 (lv_at hl 3 rfl) ?_
                  refine g_RSi (As := [.int (atL L b)]) (rest := [.int (sgI (atL L k)), .ref r3]) ⟨hx, hb, hml, hown, hts⟩ (mt_X1_heightOf l dC dI cA H.size (atL L b)) (va_cwS 1 hts gX1_cutHandle_X1_heightOf rfl rfl rfl hdX1_heightOf ⟨Nat.le_of_ble_eq_true rfl, Nat.le_of_ble_eq_true rfl⟩) hP hK hD [] (by decide) rfl rfl hl.1 rfl (Nat.le_of_ble_eq_true rfl) dX1_cutHandle_107 (Nat.zero_le _) (Nat.zero_le _) ?_
                  refine lv_imul hx hb dX1_cutHandle_110 ?_
                  refine g_MVv (As := [.int ((sgI (atL L k)) * (abI (atL L b)))]) (rest := []) ⟨hx, hb, hml, hown, hts⟩ (mt_X0_add l dC dI cA H.size r3 as9 (Sk ++ [((-(sgI (atL L b))) * (abI (atL L b) + 1))]) f1_10 ((sgI (atL L k)) * (abI (atL L b))) hw_11 (by first | omega | (simp only [List.length_append, List.length_cons, List.length_nil, List.length_set, turnL_len]; omega))) (cwV 1 hts gX1_cutHandle_X0_add rfl rfl rfl hdX0_add ⟨Nat.le_of_ble_eq_true rfl, Nat.le_of_ble_eq_true rfl⟩) hP hK hD hS hA [3, 4] (by decide) rfl (va_recv hK hP (ci := 0) (q0 := 3) rfl rfl) rfl hl.1 rfl (Nat.le_of_ble_eq_true rfl) dX1_cutHandle_111 (Nat.zero_le _) (Nat.zero_le _) (fun u9 => [(x0, .inr (1, [.ref r0, .ref r1, .ref r2, .ref r3, .int R9])), (h, .inr (0, [.ref a, .int (nI L.length)])), (a, .inl (cA, (100, .inl f))), (r3, .inr (0, [.ref as9, .int (nI (((Sk ++ [((-(sgI (atL L b))) * (abI (atL L b) + 1))]) ++ [((sgI (atL L k)) * (abI (atL L b)))]).length))])), (as9, .inl (cA, (100, .inl u9)))]) (fun _ => rfl) (fun _ => rfl) (fun u H locs hw_13 hP hD hS => ?_)
                  obtain ⟨f1_12, rfl⟩ : ∃ z, z = u := ⟨_, rfl⟩
                  have hw_13 : RI ((Sk ++ [((-(sgI (atL L b))) * (abI (atL L b) + 1))]) ++ [((sgI (atL L k)) * (abI (atL L b)))]) f1_12 := hw_13
                  have hP : va_P (dC, dI) vwCl [(x0, .inr (1, [.ref r0, .ref r1, .ref r2, .ref r3, .int R9])), (h, .inr (0, [.ref a, .int (nI L.length)])), (a, .inl (cA, (100, .inl f))), (r3, .inr (0, [.ref as9, .int (nI (((Sk ++ [((-(sgI (atL L b))) * (abI (atL L b) + 1))]) ++ [((sgI (atL L k)) * (abI (atL L b)))]).length))])), (as9, .inl (cA, (100, .inl f1_12)))] H := hP
                  have hD : va_D A [(x0, .inr (1, [.ref r0, .ref r1, .ref r2, .ref r3, .int R9])), (h, .inr (0, [.ref a, .int (nI L.length)])), (a, .inl (cA, (100, .inl f))), (r3, .inr (0, [.ref as9, .int (nI (((Sk ++ [((-(sgI (atL L b))) * (abI (atL L b) + 1))]) ++ [((sgI (atL L k)) * (abI (atL L b)))]).length))])), (as9, .inl (cA, (100, .inl f1_12)))] := hD
                  refine lv_aload_n hx hb dX1_cutHandle_114 rfl (lv_at hl 4 rfl) ?_
                  refine va_get (D := (dC, dI)) (ci := 1) (v := .ref r3) (C := RX1) (T := TX1) (N := 5) hx hb hts (in_X1_cutHandle_1) hown hK hP 0 rfl rfl 3 (by decide) (hts (.fieldLink RX1 22 "BraidWords" "spare" "LBraidWords$Row;") (List.mem_of_getElem? (i := 1) rfl)) (fun _ h9 => h9) rfl dX1_cutHandle_115 ?_
                  refine lv_iload hx hb dX1_cutHandle_118 (lv_at hl 3 rfl) ?_
                  refine g_RSi (As := [.int (atL L b)]) (rest := [.ref r3]) ⟨hx, hb, hml, hown, hts⟩ (mt_X1_signOf l dC dI cA H.size (atL L b)) (va_cwS 1 hts gX1_cutHandle_X1_signOf rfl rfl rfl hdX1_signOf ⟨Nat.le_of_ble_eq_true rfl, Nat.le_of_ble_eq_true rfl⟩) hP hK hD [] (by decide) rfl rfl hl.1 rfl (Nat.le_of_ble_eq_true rfl) dX1_cutHandle_120 (Nat.zero_le _) (Nat.zero_le _) ?_
                  refine lv_iload hx hb dX1_cutHandle_123 (lv_at hl 2 rfl) ?_
                  refine lv_imul hx hb dX1_cutHandle_125 ?_
                  refine g_MVv (As := [.int ((sgI (atL L b)) * (abI (atL L b) + 1))]) (rest := []) ⟨hx, hb, hml, hown, hts⟩ (mt_X0_add l dC dI cA H.size r3 as9 ((Sk ++ [((-(sgI (atL L b))) * (abI (atL L b) + 1))]) ++ [((sgI (atL L k)) * (abI (atL L b)))]) f1_12 ((sgI (atL L b)) * (abI (atL L b) + 1)) hw_13 (by first | omega | (simp only [List.length_append, List.length_cons, List.length_nil, List.length_set, turnL_len]; omega))) (cwV 1 hts gX1_cutHandle_X0_add rfl rfl rfl hdX0_add ⟨Nat.le_of_ble_eq_true rfl, Nat.le_of_ble_eq_true rfl⟩) hP hK hD hS hA [3, 4] (by decide) rfl (va_recv hK hP (ci := 0) (q0 := 3) rfl rfl) rfl hl.1 rfl (Nat.le_of_ble_eq_true rfl) dX1_cutHandle_126 (Nat.zero_le _) (Nat.zero_le _) (fun u9 => [(x0, .inr (1, [.ref r0, .ref r1, .ref r2, .ref r3, .int R9])), (h, .inr (0, [.ref a, .int (nI L.length)])), (a, .inl (cA, (100, .inl f))), (r3, .inr (0, [.ref as9, .int (nI ((((Sk ++ [((-(sgI (atL L b))) * (abI (atL L b) + 1))]) ++ [((sgI (atL L k)) * (abI (atL L b)))]) ++ [((sgI (atL L b)) * (abI (atL L b) + 1))]).length))])), (as9, .inl (cA, (100, .inl u9)))]) (fun _ => rfl) (fun _ => rfl) (fun u H locs hw_15 hP hD hS => ?_)
                  obtain ⟨f1_14, rfl⟩ : ∃ z, z = u := ⟨_, rfl⟩
                  have hw_15 : RI (((Sk ++ [((-(sgI (atL L b))) * (abI (atL L b) + 1))]) ++ [((sgI (atL L k)) * (abI (atL L b)))]) ++ [((sgI (atL L b)) * (abI (atL L b) + 1))]) f1_14 := hw_15
                  have hP : va_P (dC, dI) vwCl [(x0, .inr (1, [.ref r0, .ref r1, .ref r2, .ref r3, .int R9])), (h, .inr (0, [.ref a, .int (nI L.length)])), (a, .inl (cA, (100, .inl f))), (r3, .inr (0, [.ref as9, .int (nI ((((Sk ++ [((-(sgI (atL L b))) * (abI (atL L b) + 1))]) ++ [((sgI (atL L k)) * (abI (atL L b)))]) ++ [((sgI (atL L b)) * (abI (atL L b) + 1))]).length))])), (as9, .inl (cA, (100, .inl f1_14)))] H := hP
                  have hD : va_D A [(x0, .inr (1, [.ref r0, .ref r1, .ref r2, .ref r3, .int R9])), (h, .inr (0, [.ref a, .int (nI L.length)])), (a, .inl (cA, (100, .inl f))), (r3, .inr (0, [.ref as9, .int (nI ((((Sk ++ [((-(sgI (atL L b))) * (abI (atL L b) + 1))]) ++ [((sgI (atL L k)) * (abI (atL L b)))]) ++ [((sgI (atL L b)) * (abI (atL L b) + 1))]).length))])), (as9, .inl (cA, (100, .inl f1_14)))] := hD
                  refine lv_goto (tgt := 141) hx hb dX1_cutHandle_129 (by decide) ?_
                  refine lv_iinc (v := nI (k + 1)) (lv' := [(6, .int (nI (k + 1))), (7, .int (atL L k)), (5, .int (abI (atL L b) + 1)), (4, .int (atL L b)), (0, .ref x0), (1, .ref h), (2, .int (nI b)), (3, .int (nI e9))]) hx hb dX1_cutHandle_141 hl (k := 1) rfl (g_inc _) (by decide) rfl (fun ls hl => ?_)
                  refine lv_goto (tgt := 26) hx hb dX1_cutHandle_144 (by decide) ?_
                  exact ih26 (k + 1) (((Sk ++ [((-(sgI (atL L b))) * (abI (atL L b) + 1))]) ++ [((sgI (atL L k)) * (abI (atL L b)))]) ++ [((sgI (atL L b)) * (abI (atL L b) + 1))]) f1_14 (by omega) (by rw [hSk]; first | exact (ckL_three (by omega) (by omega) c77).symm | exact (ckL_skip (by omega)).symm | exact (ckL_one (by omega) (by omega) (fun q => absurd q.1 (by omega))).symm | exact (ckL_one (by omega) (by omega) (fun q => absurd q.2.1 (by omega))).symm | exact (ckL_one (by omega) (by omega) (fun q => c77 q.2.2)).symm) hw_15 (by omega) _ _ hP hD hS _ (lv_sub hl [0, 2, 3, 4, 5, 6, 7] rfl)
          · have c52 : k = e9 := g_neF k e9 (by omega) (by omega) c52
            refine lv_goto (tgt := 141) hx hb dX1_cutHandle_55 (by decide) ?_
            refine lv_iinc (v := nI (k + 1)) (lv' := [(6, .int (nI (k + 1))), (7, .int (atL L k)), (5, .int (abI (atL L b) + 1)), (4, .int (atL L b)), (0, .ref x0), (1, .ref h), (2, .int (nI b)), (3, .int (nI e9))]) hx hb dX1_cutHandle_141 hl (k := 1) rfl (g_inc _) (by decide) rfl (fun ls hl => ?_)
            refine lv_goto (tgt := 26) hx hb dX1_cutHandle_144 (by decide) ?_
            exact ih26 (k + 1) Sk fk (by omega) (by rw [hSk]; first | exact (ckL_three (by omega) (by omega) c77).symm | exact (ckL_skip (by omega)).symm | exact (ckL_one (by omega) (by omega) (fun q => absurd q.1 (by omega))).symm | exact (ckL_one (by omega) (by omega) (fun q => absurd q.2.1 (by omega))).symm | exact (ckL_one (by omega) (by omega) (fun q => c77 q.2.2)).symm) hRk (by omega) _ _ hP hD hS _ (lv_sub hl [0, 2, 3, 4, 5, 6, 7] rfl)
  exact lp26 ((L.length - 0) + 1) 0 ([] : List Int32) fs (Nat.zero_le _) rfl RI_nil (Nat.lt_succ_self _) _ _ hP hD hS _ (lv_sub hl [0, 1, 2, 3, 4, 5, 6] rfl)

abbrev mt_X1_makeThoughtPlain_rm : Room := { frames := 3, cells := 0, slots := 0, locals := 71 }
set_option maxHeartbeats 4000000 in
set_option maxRecDepth 100000 in
/-- makeThoughtPlain -/
theorem mt_X1_makeThoughtPlain (l : Launch) (dC : Nat → ClassId) (dI : Nat → Nat → Nat) (cA : ClassId) (sz : Nat) (x0 : Nat) (r0 : Nat) (r1 : Nat) (r2 : Nat) (r3 : Nat) (R9 : Int32) (a : Nat) (as9 : Nat) (L : List Int32) (f : Nat → Int32) (ns : Int32) (fs : Nat → Int32) (hR : RI L f) : Met l yX1_makeThoughtPlain wsX1_makeThoughtPlain mt_X1_makeThoughtPlain_rm (va_Pc [.ref x0] (gB (dC, dI) [(cA, .int)] [(x0, .inr (1, [.ref r0, .ref r1, .ref r2, .ref r3, .int R9])), (r2, .inr (0, [.ref a, .int (nI L.length)])), (a, .inl (cA, (100, .inl f))), (r3, .inr (0, [.ref as9, .int ns])), (as9, .inl (cA, (100, .inl fs)))] sz)) (gM (dC, dI) (some (.int (cuI (plain L)))) (fun u : (List Int32) × (Nat → Int32) × Int32 × (Nat → Int32) => RI u.1 u.2.1 ∧ ∀ z, plain L = some z → u.1 = z.2) (fun u : (List Int32) × (Nat → Int32) × Int32 × (Nat → Int32) => [(x0, .inr (1, [.ref r0, .ref r1, .ref r2, .ref r3, .int R9])), (r2, .inr (0, [.ref a, .int (nI u.1.length)])), (a, .inl (cA, (100, .inl u.2.1))), (r3, .inr (0, [.ref as9, .int u.2.2.1])), (as9, .inl (cA, (100, .inl u.2.2.2)))]) (va_A [(x0, .inr (1, [.ref r0, .ref r1, .ref r2, .ref r3, .int R9])), (r2, .inr (0, [.ref a, .int (nI L.length)])), (a, .inl (cA, (100, .inl f))), (r3, .inr (0, [.ref as9, .int ns])), (as9, .inl (cA, (100, .inl fs)))] sz)) 0 0 (va_A [(x0, .inr (1, [.ref r0, .ref r1, .ref r2, .ref r3, .int R9])), (r2, .inr (0, [.ref a, .int (nI L.length)])), (a, .inl (cA, (100, .inl f))), (r3, .inr (0, [.ref as9, .int ns])), (as9, .inl (cA, (100, .inl fs)))] sz) := by
  refine g_ofM (cc := cX1_makeThoughtPlain) (maxL := 5) (ret := (some .int)) (by decide) rfl (Nat.le_of_ble_eq_true rfl) (fun p e s m below meth c ls hx hb hr hml hts hown hlocks hP hK hl hin A hA hD hS => ?_)
  have hl : lv_has ls 5 [(0, .ref x0)] := hl
  have hL := hR.1
  refine lv_iconst (v := 0) hx hb dX1_makeThoughtPlain_0 (by decide) ?_
  refine lv_istore_n (lv' := [(1, .int 0), (0, .ref x0)]) hx hb dX1_makeThoughtPlain_1 rfl hl (by decide) rfl (fun ls hl => ?_)
  refine lv_iconst (v := 0) hx hb dX1_makeThoughtPlain_2 (by decide) ?_
  refine lv_istore_n (lv' := [(2, .int 0), (1, .int 0), (0, .ref x0)]) hx hb dX1_makeThoughtPlain_3 rfl hl (by decide) rfl (fun ls hl => ?_)
  have lp4 : ∀ (d : Nat) (k : Nat) (fr : Nat) (Lt : List Int32) (ft : Nat → Int32) (n1 : Int32) (f1 : Nat → Int32) (hk9 : k ≤ 101) (hfr : fr ≤ 100) (hn : ∀ j, j < fr → bg Lt j = none) (hm : mpK k Lt = plain L) (hRt : RI Lt ft), 102 - k < d → ∀ (H : Heap) (locs : List Loc), va_P (dC, dI) vwCl [(x0, .inr (1, [.ref r0, .ref r1, .ref r2, .ref r3, .int R9])), (r2, .inr (0, [.ref a, .int (nI Lt.length)])), (a, .inl (cA, (100, .inl ft))), (r3, .inr (0, [.ref as9, .int n1])), (as9, .inl (cA, (100, .inl f1)))] H → va_D A [(x0, .inr (1, [.ref r0, .ref r1, .ref r2, .ref r3, .int R9])), (r2, .inr (0, [.ref a, .int (nI Lt.length)])), (a, .inl (cA, (100, .inl ft))), (r3, .inr (0, [.ref as9, .int n1])), (as9, .inl (cA, (100, .inl f1)))] → va_S A s.heap H locs → ∀ ls : Array Slot, lv_has ls 5 [(2, .int (nI k)), (1, .int (nI fr)), (0, .ref x0)] → W p l e mt_X1_makeThoughtPlain_rm s m ([.ref x0] : List Value).toArray below meth c H locs 0 0 (MQ below (gM (dC, dI) (some (.int (cuI (plain L)))) (fun u : (List Int32) × (Nat → Int32) × Int32 × (Nat → Int32) => RI u.1 u.2.1 ∧ ∀ z, plain L = some z → u.1 = z.2) (fun u : (List Int32) × (Nat → Int32) × Int32 × (Nat → Int32) => [(x0, .inr (1, [.ref r0, .ref r1, .ref r2, .ref r3, .int R9])), (r2, .inr (0, [.ref a, .int (nI u.1.length)])), (a, .inl (cA, (100, .inl u.2.1))), (r3, .inr (0, [.ref as9, .int u.2.2.1])), (as9, .inl (cA, (100, .inl u.2.2.2)))]) A) ([.ref x0] : List Value).toArray s 0 0 A) (F0 m 4 ls []) := by
    intro d
    induction d with
    | zero => intro k fr Lt ft n1 f1 hk9 hfr hn hm hRt hd; exact absurd hd (Nat.not_lt_zero _)
    | succ d ih4 =>
      intro k fr Lt ft n1 f1 hk9 hfr hn hm hRt hd H locs hP hD hS ls hl
      have hLt := hRt.1
      refine lv_iload_n hx hb dX1_makeThoughtPlain_4 rfl (lv_at hl 0 rfl) ?_
      refine lv_bipush (v := 100) hx hb dX1_makeThoughtPlain_5 (by decide) ?_
      refine lv_icmp_gt (tgt := 82) hx hb dX1_makeThoughtPlain_7 (by decide) (fun c7 => ?_) (fun c7 => ?_)
      · have c7 : 100 < k := g_gtT k 100 (by omega) (by omega) c7
        refine lv_bipush (v := (-9)) hx hb dX1_makeThoughtPlain_82 (by decide) ?_
        exact g_endMi hx hb hr hlocks hP hS dX1_makeThoughtPlain_84 (Lt, ft, n1, f1) rfl (by rw [← hm, mpK_out c7]; rfl) (⟨hRt, fun z hz => by rw [← hm, mpK_out c7] at hz; cases hz⟩)
      · have c7 : k ≤ 100 := g_gtF k 100 (by omega) (by omega) c7
        refine lv_aload_n hx hb dX1_makeThoughtPlain_10 rfl (lv_at hl 2 rfl) ?_
        refine va_get (D := (dC, dI)) (ci := 1) (v := .ref r2) (C := RX1) (T := TX1) (N := 5) hx hb hts (in_X1_makeThoughtPlain_1) hown hK hP 0 rfl rfl 2 (by decide) (hts (.fieldLink RX1 19 "BraidWords" "thought" "LBraidWords$Row;") (List.mem_of_getElem? (i := 1) rfl)) (fun _ h9 => h9) rfl dX1_makeThoughtPlain_11 ?_
        refine lv_iload_n hx hb dX1_makeThoughtPlain_14 rfl (lv_at hl 1 rfl) ?_
        refine g_RSi (As := [.ref r2, .int (nI fr)]) (rest := []) ⟨hx, hb, hml, hown, hts⟩ (mt_X1_lastOfFirstHandle l dC dI cA H.size r2 a Lt ft fr hRt (by first | omega | (simp only [List.length_append, List.length_cons, List.length_nil, List.length_set, turnL_len]; omega))) (va_cwS 2 hts gX1_makeThoughtPlain_X1_lastOfFirstHandle rfl rfl rfl hdX1_lastOfFirstHandle ⟨Nat.le_of_ble_eq_true rfl, Nat.le_of_ble_eq_true rfl⟩) hP hK hD [1, 2] (by decide) rfl rfl hl.1 rfl (Nat.le_of_ble_eq_true rfl) dX1_makeThoughtPlain_15 (Nat.zero_le _) (Nat.zero_le _) ?_
        rw [enF_from hn]
        refine lv_istore_n (lv' := [(3, .int (oiI (enF Lt 0))), (2, .int (nI k)), (1, .int (nI fr)), (0, .ref x0)]) hx hb dX1_makeThoughtPlain_18 rfl hl (by decide) rfl (fun ls hl => ?_)
        refine lv_iload_n hx hb dX1_makeThoughtPlain_19 rfl (lv_at hl 0 rfl) ?_
        refine lv_iconst (v := (-1)) hx hb dX1_makeThoughtPlain_20 (by decide) ?_
        refine lv_icmp_ne (tgt := 26) hx hb dX1_makeThoughtPlain_21 (by decide) (fun c21 => ?_) (fun c21 => ?_)
        · obtain ⟨e9, c21⟩ := oiI_yes c21
          obtain ⟨-, he2, ⟨b9, hb9⟩, hne⟩ := enF_spec c21
          have hbl := bg_lt hb9
          have hcl := cutL_len hbl he2
          have hcn : cnL Lt b9 (e9 - (b9 + 1)) ≤ e9 - (b9 + 1) := cnL_le
          rw [show oiI (enF Lt 0) = nI e9 from by rw [c21]; rfl] at hl
          refine lv_aload_n hx hb dX1_makeThoughtPlain_26 rfl (lv_at hl 3 rfl) ?_
          refine va_get (D := (dC, dI)) (ci := 1) (v := .ref r2) (C := RX1) (T := TX1) (N := 5) hx hb hts (in_X1_makeThoughtPlain_1) hown hK hP 0 rfl rfl 2 (by decide) (hts (.fieldLink RX1 19 "BraidWords" "thought" "LBraidWords$Row;") (List.mem_of_getElem? (i := 1) rfl)) (fun _ h9 => h9) rfl dX1_makeThoughtPlain_27 ?_
          refine lv_iload_n hx hb dX1_makeThoughtPlain_30 rfl (lv_at hl 0 rfl) ?_
          refine g_RSi (As := [.ref r2, .int (nI e9)]) (rest := []) ⟨hx, hb, hml, hown, hts⟩ (mt_X1_firstOfHandle l dC dI cA H.size r2 a Lt ft e9 hRt (by first | omega | (simp only [List.length_append, List.length_cons, List.length_nil, List.length_set, turnL_len]; omega))) (va_cwS 2 hts gX1_makeThoughtPlain_X1_firstOfHandle rfl rfl rfl hdX1_firstOfHandle ⟨Nat.le_of_ble_eq_true rfl, Nat.le_of_ble_eq_true rfl⟩) hP hK hD [1, 2] (by decide) rfl rfl hl.1 rfl (Nat.le_of_ble_eq_true rfl) dX1_makeThoughtPlain_31 (Nat.zero_le _) (Nat.zero_le _) ?_
          rw [show oiI (bg Lt e9) = nI b9 from by rw [hb9]; rfl]
          refine lv_istore (lv' := [(4, .int (nI b9)), (3, .int (nI e9)), (2, .int (nI k)), (1, .int (nI fr)), (0, .ref x0)]) hx hb dX1_makeThoughtPlain_34 hl (by decide) rfl (fun ls hl => ?_)
          refine lv_aload_n hx hb dX1_makeThoughtPlain_36 rfl (lv_at hl 4 rfl) ?_
          refine va_get (D := (dC, dI)) (ci := 1) (v := .ref r2) (C := RX1) (T := TX1) (N := 5) hx hb hts (in_X1_makeThoughtPlain_1) hown hK hP 0 rfl rfl 2 (by decide) (hts (.fieldLink RX1 19 "BraidWords" "thought" "LBraidWords$Row;") (List.mem_of_getElem? (i := 1) rfl)) (fun _ h9 => h9) rfl dX1_makeThoughtPlain_37 ?_
          refine g_RVi (As := []) (rest := []) ⟨hx, hb, hml, hown, hts⟩ (mt_X0_size l dC dI cA H.size r2 a (nI Lt.length) ft) (cwV 0 hts gX1_makeThoughtPlain_X0_size rfl rfl rfl hdX0_size ⟨Nat.le_of_ble_eq_true rfl, Nat.le_of_ble_eq_true rfl⟩) hP hK hD [1, 2] (by decide) rfl (va_recv hK hP (ci := 0) (q0 := 1) rfl rfl) rfl hl.1 rfl (Nat.le_of_ble_eq_true rfl) dX1_makeThoughtPlain_40 (Nat.zero_le _) (Nat.zero_le _) ?_
          refine lv_aload_n hx hb dX1_makeThoughtPlain_43 rfl (lv_at hl 4 rfl) ?_
          refine va_get (D := (dC, dI)) (ci := 1) (v := .ref r2) (C := RX1) (T := TX1) (N := 5) hx hb hts (in_X1_makeThoughtPlain_1) hown hK hP 0 rfl rfl 2 (by decide) (hts (.fieldLink RX1 19 "BraidWords" "thought" "LBraidWords$Row;") (List.mem_of_getElem? (i := 1) rfl)) (fun _ h9 => h9) rfl dX1_makeThoughtPlain_44 ?_
          refine lv_iload hx hb dX1_makeThoughtPlain_47 (lv_at hl 0 rfl) ?_
          refine lv_iload_n hx hb dX1_makeThoughtPlain_49 rfl (lv_at hl 1 rfl) ?_
          refine g_RSi (As := [.ref r2, .int (nI b9), .int (nI e9)]) (rest := [.int (nI Lt.length)]) ⟨hx, hb, hml, hown, hts⟩ (mt_X1_moreByCutting l dC dI cA H.size r2 a Lt ft b9 e9 hRt (by first | omega | (simp only [List.length_append, List.length_cons, List.length_nil, List.length_set, turnL_len]; omega)) (by first | omega | (simp only [List.length_append, List.length_cons, List.length_nil, List.length_set, turnL_len]; omega))) (va_cwS 3 hts gX1_makeThoughtPlain_X1_moreByCutting rfl rfl rfl hdX1_moreByCutting ⟨Nat.le_of_ble_eq_true rfl, Nat.le_of_ble_eq_true rfl⟩) hP hK hD [1, 2] (by decide) rfl rfl hl.1 rfl (Nat.le_of_ble_eq_true rfl) dX1_makeThoughtPlain_50 (Nat.zero_le _) (Nat.zero_le _) ?_
          refine lv_iadd hx hb dX1_makeThoughtPlain_53 ?_
          rw [cut_more hbl he2]
          refine lv_bipush (v := 100) hx hb dX1_makeThoughtPlain_54 (by decide) ?_
          refine lv_icmp_le (tgt := 62) hx hb dX1_makeThoughtPlain_56 (by decide) (fun c56 => ?_) (fun c56 => ?_)
          · have c56 : ((cutL Lt b9 e9).length) ≤ 100 := g_leT ((cutL Lt b9 e9).length) 100 (by omega) (by omega) c56
            refine lv_aload_n hx hb dX1_makeThoughtPlain_62 rfl (lv_at hl 4 rfl) ?_
            refine lv_aload_n hx hb dX1_makeThoughtPlain_63 rfl (lv_at hl 4 rfl) ?_
            refine va_get (D := (dC, dI)) (ci := 1) (v := .ref r2) (C := RX1) (T := TX1) (N := 5) hx hb hts (in_X1_makeThoughtPlain_1) hown hK hP 0 rfl rfl 2 (by decide) (hts (.fieldLink RX1 19 "BraidWords" "thought" "LBraidWords$Row;") (List.mem_of_getElem? (i := 1) rfl)) (fun _ h9 => h9) rfl dX1_makeThoughtPlain_64 ?_
            refine lv_iload hx hb dX1_makeThoughtPlain_67 (lv_at hl 0 rfl) ?_
            refine lv_iload_n hx hb dX1_makeThoughtPlain_69 rfl (lv_at hl 1 rfl) ?_
            refine g_MVv (As := [.ref r2, .int (nI b9), .int (nI e9)]) (rest := []) ⟨hx, hb, hml, hown, hts⟩ (mt_X1_cutHandle l dC dI cA H.size x0 r0 r1 r2 r3 R9 r2 a as9 Lt ft n1 f1 b9 e9 hRt (by first | omega | (simp only [List.length_append, List.length_cons, List.length_nil, List.length_set, turnL_len]; omega)) (by first | omega | (simp only [List.length_append, List.length_cons, List.length_nil, List.length_set, turnL_len]; omega)) (by first | omega | (simp only [List.length_append, List.length_cons, List.length_nil, List.length_set, turnL_len]; omega))) (cwV 3 hts gX1_makeThoughtPlain_X1_cutHandle rfl rfl rfl hdX1_cutHandle ⟨Nat.le_of_ble_eq_true rfl, Nat.le_of_ble_eq_true rfl⟩) hP hK hD hS hA [0, 1, 2, 3, 4] (by decide) rfl (va_recv hK hP (ci := 1) (q0 := 0) rfl rfl) rfl hl.1 rfl (Nat.le_of_ble_eq_true rfl) dX1_makeThoughtPlain_70 (Nat.zero_le _) (Nat.zero_le _) (fun u9 => [(x0, .inr (1, [.ref r0, .ref r1, .ref r2, .ref r3, .int R9])), (r2, .inr (0, [.ref a, .int (nI ((cutL Lt b9 e9).length))])), (a, .inl (cA, (100, .inl u9.1))), (r3, .inr (0, [.ref as9, .int (nI ((cutL Lt b9 e9).length))])), (as9, .inl (cA, (100, .inl u9.2)))]) (fun _ => rfl) (fun _ => rfl) (fun u H locs hw_3 hP hD hS => ?_)
            obtain ⟨f1_1, f2_2⟩ := u
            have hw_3 : RI (cutL Lt b9 e9) f1_1 := hw_3
            have hP : va_P (dC, dI) vwCl [(x0, .inr (1, [.ref r0, .ref r1, .ref r2, .ref r3, .int R9])), (r2, .inr (0, [.ref a, .int (nI ((cutL Lt b9 e9).length))])), (a, .inl (cA, (100, .inl f1_1))), (r3, .inr (0, [.ref as9, .int (nI ((cutL Lt b9 e9).length))])), (as9, .inl (cA, (100, .inl f2_2)))] H := hP
            have hD : va_D A [(x0, .inr (1, [.ref r0, .ref r1, .ref r2, .ref r3, .int R9])), (r2, .inr (0, [.ref a, .int (nI ((cutL Lt b9 e9).length))])), (a, .inl (cA, (100, .inl f1_1))), (r3, .inr (0, [.ref as9, .int (nI ((cutL Lt b9 e9).length))])), (as9, .inl (cA, (100, .inl f2_2)))] := hD
            refine lv_iload hx hb dX1_makeThoughtPlain_73 (lv_at hl 0 rfl) ?_
            refine lv_istore_n (lv' := [(1, .int (nI b9)), (4, .int (nI b9)), (3, .int (nI e9)), (2, .int (nI k)), (0, .ref x0)]) hx hb dX1_makeThoughtPlain_75 rfl hl (by decide) rfl (fun ls hl => ?_)
            refine lv_iinc (v := nI (k + 1)) (lv' := [(2, .int (nI (k + 1))), (1, .int (nI b9)), (4, .int (nI b9)), (3, .int (nI e9)), (0, .ref x0)]) hx hb dX1_makeThoughtPlain_76 hl (k := 3) rfl (g_inc _) (by decide) rfl (fun ls hl => ?_)
            refine lv_goto (tgt := 4) hx hb dX1_makeThoughtPlain_79 (by decide) ?_
            exact ih4 (k + 1) b9 (cutL Lt b9 e9) f1_1 (nI (cutL Lt b9 e9).length) f2_2 (by omega) (by omega) (fun j hj => cut_none hbl he2 (fun i hi => hne i (Nat.zero_le _) hi) hj) (by rw [← hm, mpK_cut c21 hb9 (by omega) (by omega)]) hw_3 (by omega) _ _ hP hD hS _ (lv_sub hl [0, 1, 4] rfl)
          · have c56 : 100 < ((cutL Lt b9 e9).length) := g_leF ((cutL Lt b9 e9).length) 100 (by omega) (by omega) c56
            refine lv_bipush (v := (-9)) hx hb dX1_makeThoughtPlain_59 (by decide) ?_
            exact g_endMi hx hb hr hlocks hP hS dX1_makeThoughtPlain_61 (Lt, ft, n1, f1) rfl (by rw [← hm, mpK_long c21 hb9 (by omega)]; rfl) (⟨hRt, fun z hz => by rw [← hm, mpK_long c21 hb9 (by omega)] at hz; cases hz⟩)
        · have c21 : enF Lt 0 = none := oiI_no (enF_small (by omega)) c21
          refine lv_iload_n hx hb dX1_makeThoughtPlain_24 rfl (lv_at hl 1 rfl) ?_
          exact g_endMi hx hb hr hlocks hP hS dX1_makeThoughtPlain_25 (Lt, ft, n1, f1) rfl (by rw [← hm, mpK_end c21 (by omega)]; rfl) (⟨hRt, fun z hz => by rw [← hm, mpK_end c21 (by omega)] at hz; cases hz; rfl⟩)
  exact lp4 ((102 - 0) + 1) 0 0 L f ns fs (by omega) (by omega) (fun j hj => absurd hj (Nat.not_lt_zero j)) rfl hR (Nat.lt_succ_self _) _ _ hP hD hS _ (lv_sub hl [0, 1, 2] rfl)

abbrev mt_X1_thinkOfDifference_rm : Room := { frames := 2, cells := 0, slots := 0, locals := 44 }
set_option maxHeartbeats 4000000 in
set_option maxRecDepth 100000 in
/-- thinkOfDifference -/
theorem mt_X1_thinkOfDifference (l : Launch) (dC : Nat → ClassId) (dI : Nat → Nat → Nat) (cA : ClassId) (sz : Nat) (x0 : Nat) (r0 : Nat) (r1 : Nat) (r2 : Nat) (r3 : Nat) (R9 : Int32) (a0 : Nat) (a1 : Nat) (a2 : Nat) (L0 : List Int32) (f0 : Nat → Int32) (L1 : List Int32) (f1 : Nat → Int32) (n2 : Int32) (f2 : Nat → Int32) (hR0 : RI L0 f0) (hR1 : RI L1 f1) (hlen : L0.length + L1.length ≤ 100) : Met l yX1_thinkOfDifference wsX1_thinkOfDifference mt_X1_thinkOfDifference_rm (va_Pc [.ref x0] (gB (dC, dI) [(cA, .int)] [(x0, .inr (1, [.ref r0, .ref r1, .ref r2, .ref r3, .int R9])), (r0, .inr (0, [.ref a0, .int (nI L0.length)])), (a0, .inl (cA, (100, .inl f0))), (r1, .inr (0, [.ref a1, .int (nI L1.length)])), (a1, .inl (cA, (100, .inl f1))), (r2, .inr (0, [.ref a2, .int n2])), (a2, .inl (cA, (100, .inl f2)))] sz)) (gM (dC, dI) none (fun u : (Nat → Int32) => RI (turnL L0 ++ L1) u) (fun u : (Nat → Int32) => [(x0, .inr (1, [.ref r0, .ref r1, .ref r2, .ref r3, .int R9])), (r0, .inr (0, [.ref a0, .int (nI L0.length)])), (a0, .inl (cA, (100, .inl f0))), (r1, .inr (0, [.ref a1, .int (nI L1.length)])), (a1, .inl (cA, (100, .inl f1))), (r2, .inr (0, [.ref a2, .int (nI ((turnL L0 ++ L1).length))])), (a2, .inl (cA, (100, .inl u)))]) (va_A [(x0, .inr (1, [.ref r0, .ref r1, .ref r2, .ref r3, .int R9])), (r0, .inr (0, [.ref a0, .int (nI L0.length)])), (a0, .inl (cA, (100, .inl f0))), (r1, .inr (0, [.ref a1, .int (nI L1.length)])), (a1, .inl (cA, (100, .inl f1))), (r2, .inr (0, [.ref a2, .int n2])), (a2, .inl (cA, (100, .inl f2)))] sz)) 0 0 (va_A [(x0, .inr (1, [.ref r0, .ref r1, .ref r2, .ref r3, .int R9])), (r0, .inr (0, [.ref a0, .int (nI L0.length)])), (a0, .inl (cA, (100, .inl f0))), (r1, .inr (0, [.ref a1, .int (nI L1.length)])), (a1, .inl (cA, (100, .inl f1))), (r2, .inr (0, [.ref a2, .int n2])), (a2, .inl (cA, (100, .inl f2)))] sz) := by
  refine g_ofM (cc := cX1_thinkOfDifference) (maxL := 1) (ret := none) (by decide) rfl (Nat.le_of_ble_eq_true rfl) (fun p e s m below meth c ls hx hb hr hml hts hown hlocks hP hK hl hin A hA hD hS => ?_)
  have hl : lv_has ls 1 [(0, .ref x0)] := hl
  have hLa := hR0.1
  have hLb := hR1.1
  refine lv_aload_n hx hb dX1_thinkOfDifference_0 rfl (lv_at hl 0 rfl) ?_
  refine va_get (D := (dC, dI)) (ci := 1) (v := .ref r2) (C := RX1) (T := TX1) (N := 5) hx hb hts (in_X1_thinkOfDifference_1) hown hK hP 0 rfl rfl 2 (by decide) (hts (.fieldLink RX1 19 "BraidWords" "thought" "LBraidWords$Row;") (List.mem_of_getElem? (i := 1) rfl)) (fun _ h9 => h9) rfl dX1_thinkOfDifference_1 ?_
  refine g_MVv (As := []) (rest := []) ⟨hx, hb, hml, hown, hts⟩ (mt_X0_clear l dC dI cA s.heap.size r2 a2 n2 f2) (cwV 0 hts gX1_thinkOfDifference_X0_clear rfl rfl rfl hdX0_clear ⟨Nat.le_of_ble_eq_true rfl, Nat.le_of_ble_eq_true rfl⟩) hP hK hD hS hA [5, 6] (by decide) rfl (va_recv hK hP (ci := 0) (q0 := 5) rfl rfl) rfl hl.1 rfl (Nat.le_of_ble_eq_true rfl) dX1_thinkOfDifference_4 (Nat.zero_le _) (Nat.zero_le _) (fun u9 => [(x0, .inr (1, [.ref r0, .ref r1, .ref r2, .ref r3, .int R9])), (r0, .inr (0, [.ref a0, .int (nI L0.length)])), (a0, .inl (cA, (100, .inl f0))), (r1, .inr (0, [.ref a1, .int (nI L1.length)])), (a1, .inl (cA, (100, .inl f1))), (r2, .inr (0, [.ref a2, .int (nI (([] : List Int32).length))])), (a2, .inl (cA, (100, .inl f2)))]) (fun _ => rfl) (fun _ => rfl) (fun u H locs hw_1 hP hD hS => ?_)
  have hw_1 : True := hw_1
  have hP : va_P (dC, dI) vwCl [(x0, .inr (1, [.ref r0, .ref r1, .ref r2, .ref r3, .int R9])), (r0, .inr (0, [.ref a0, .int (nI L0.length)])), (a0, .inl (cA, (100, .inl f0))), (r1, .inr (0, [.ref a1, .int (nI L1.length)])), (a1, .inl (cA, (100, .inl f1))), (r2, .inr (0, [.ref a2, .int (nI (([] : List Int32).length))])), (a2, .inl (cA, (100, .inl f2)))] H := hP
  have hD : va_D A [(x0, .inr (1, [.ref r0, .ref r1, .ref r2, .ref r3, .int R9])), (r0, .inr (0, [.ref a0, .int (nI L0.length)])), (a0, .inl (cA, (100, .inl f0))), (r1, .inr (0, [.ref a1, .int (nI L1.length)])), (a1, .inl (cA, (100, .inl f1))), (r2, .inr (0, [.ref a2, .int (nI (([] : List Int32).length))])), (a2, .inl (cA, (100, .inl f2)))] := hD
  refine lv_aload_n hx hb dX1_thinkOfDifference_7 rfl (lv_at hl 0 rfl) ?_
  refine va_get (D := (dC, dI)) (ci := 1) (v := .ref r2) (C := RX1) (T := TX1) (N := 5) hx hb hts (in_X1_thinkOfDifference_1) hown hK hP 0 rfl rfl 2 (by decide) (hts (.fieldLink RX1 19 "BraidWords" "thought" "LBraidWords$Row;") (List.mem_of_getElem? (i := 1) rfl)) (fun _ h9 => h9) rfl dX1_thinkOfDifference_8 ?_
  refine lv_aload_n hx hb dX1_thinkOfDifference_11 rfl (lv_at hl 0 rfl) ?_
  refine va_get (D := (dC, dI)) (ci := 1) (v := .ref r0) (C := RX1) (T := TX1) (N := 5) hx hb hts (in_X1_thinkOfDifference_1) hown hK hP 0 rfl rfl 0 (by decide) (hts (.fieldLink RX1 10 "BraidWords" "word0" "LBraidWords$Row;") (List.mem_of_getElem? (i := 2) rfl)) (fun _ h9 => h9) rfl dX1_thinkOfDifference_12 ?_
  refine g_MVv (As := [.ref r0]) (rest := []) ⟨hx, hb, hml, hown, hts⟩ (mt_X0_addTurnedRound l dC dI cA H.size r2 a2 r0 a0 [] f2 L0 f0 RI_nil hR0 (by first | omega | (simp only [List.length_append, List.length_cons, List.length_nil, List.length_set, turnL_len]; omega))) (cwV 1 hts gX1_thinkOfDifference_X0_addTurnedRound rfl rfl rfl hdX0_addTurnedRound ⟨Nat.le_of_ble_eq_true rfl, Nat.le_of_ble_eq_true rfl⟩) hP hK hD hS hA [5, 6, 1, 2] (by decide) rfl (va_recv hK hP (ci := 0) (q0 := 5) rfl rfl) rfl hl.1 rfl (Nat.le_of_ble_eq_true rfl) dX1_thinkOfDifference_15 (Nat.zero_le _) (Nat.zero_le _) (fun u9 => [(x0, .inr (1, [.ref r0, .ref r1, .ref r2, .ref r3, .int R9])), (r0, .inr (0, [.ref a0, .int (nI L0.length)])), (a0, .inl (cA, (100, .inl f0))), (r1, .inr (0, [.ref a1, .int (nI L1.length)])), (a1, .inl (cA, (100, .inl f1))), (r2, .inr (0, [.ref a2, .int (nI (([] ++ turnL L0).length))])), (a2, .inl (cA, (100, .inl u9)))]) (fun _ => rfl) (fun _ => rfl) (fun u H locs hw_3 hP hD hS => ?_)
  obtain ⟨f3_2, rfl⟩ : ∃ z, z = u := ⟨_, rfl⟩
  have hw_3 : RI ([] ++ turnL L0) f3_2 := hw_3
  have hP : va_P (dC, dI) vwCl [(x0, .inr (1, [.ref r0, .ref r1, .ref r2, .ref r3, .int R9])), (r0, .inr (0, [.ref a0, .int (nI L0.length)])), (a0, .inl (cA, (100, .inl f0))), (r1, .inr (0, [.ref a1, .int (nI L1.length)])), (a1, .inl (cA, (100, .inl f1))), (r2, .inr (0, [.ref a2, .int (nI (([] ++ turnL L0).length))])), (a2, .inl (cA, (100, .inl f3_2)))] H := hP
  have hD : va_D A [(x0, .inr (1, [.ref r0, .ref r1, .ref r2, .ref r3, .int R9])), (r0, .inr (0, [.ref a0, .int (nI L0.length)])), (a0, .inl (cA, (100, .inl f0))), (r1, .inr (0, [.ref a1, .int (nI L1.length)])), (a1, .inl (cA, (100, .inl f1))), (r2, .inr (0, [.ref a2, .int (nI (([] ++ turnL L0).length))])), (a2, .inl (cA, (100, .inl f3_2)))] := hD
  refine lv_aload_n hx hb dX1_thinkOfDifference_18 rfl (lv_at hl 0 rfl) ?_
  refine va_get (D := (dC, dI)) (ci := 1) (v := .ref r2) (C := RX1) (T := TX1) (N := 5) hx hb hts (in_X1_thinkOfDifference_1) hown hK hP 0 rfl rfl 2 (by decide) (hts (.fieldLink RX1 19 "BraidWords" "thought" "LBraidWords$Row;") (List.mem_of_getElem? (i := 1) rfl)) (fun _ h9 => h9) rfl dX1_thinkOfDifference_19 ?_
  refine lv_aload_n hx hb dX1_thinkOfDifference_22 rfl (lv_at hl 0 rfl) ?_
  refine va_get (D := (dC, dI)) (ci := 1) (v := .ref r1) (C := RX1) (T := TX1) (N := 5) hx hb hts (in_X1_thinkOfDifference_1) hown hK hP 0 rfl rfl 1 (by decide) (hts (.fieldLink RX1 16 "BraidWords" "word1" "LBraidWords$Row;") (List.mem_of_getElem? (i := 3) rfl)) (fun _ h9 => h9) rfl dX1_thinkOfDifference_23 ?_
  refine g_MVv (As := [.ref r1]) (rest := []) ⟨hx, hb, hml, hown, hts⟩ (mt_X0_addAll l dC dI cA H.size r2 a2 r1 a1 ([] ++ turnL L0) f3_2 L1 f1 hw_3 hR1 (by first | omega | (simp only [List.length_append, List.length_cons, List.length_nil, List.length_set, turnL_len]; omega))) (cwV 1 hts gX1_thinkOfDifference_X0_addAll rfl rfl rfl hdX0_addAll ⟨Nat.le_of_ble_eq_true rfl, Nat.le_of_ble_eq_true rfl⟩) hP hK hD hS hA [5, 6, 3, 4] (by decide) rfl (va_recv hK hP (ci := 0) (q0 := 5) rfl rfl) rfl hl.1 rfl (Nat.le_of_ble_eq_true rfl) dX1_thinkOfDifference_26 (Nat.zero_le _) (Nat.zero_le _) (fun u9 => [(x0, .inr (1, [.ref r0, .ref r1, .ref r2, .ref r3, .int R9])), (r0, .inr (0, [.ref a0, .int (nI L0.length)])), (a0, .inl (cA, (100, .inl f0))), (r1, .inr (0, [.ref a1, .int (nI L1.length)])), (a1, .inl (cA, (100, .inl f1))), (r2, .inr (0, [.ref a2, .int (nI ((([] ++ turnL L0) ++ L1).length))])), (a2, .inl (cA, (100, .inl u9)))]) (fun _ => rfl) (fun _ => rfl) (fun u H locs hw_5 hP hD hS => ?_)
  obtain ⟨f3_4, rfl⟩ : ∃ z, z = u := ⟨_, rfl⟩
  have hw_5 : RI (([] ++ turnL L0) ++ L1) f3_4 := hw_5
  have hP : va_P (dC, dI) vwCl [(x0, .inr (1, [.ref r0, .ref r1, .ref r2, .ref r3, .int R9])), (r0, .inr (0, [.ref a0, .int (nI L0.length)])), (a0, .inl (cA, (100, .inl f0))), (r1, .inr (0, [.ref a1, .int (nI L1.length)])), (a1, .inl (cA, (100, .inl f1))), (r2, .inr (0, [.ref a2, .int (nI ((([] ++ turnL L0) ++ L1).length))])), (a2, .inl (cA, (100, .inl f3_4)))] H := hP
  have hD : va_D A [(x0, .inr (1, [.ref r0, .ref r1, .ref r2, .ref r3, .int R9])), (r0, .inr (0, [.ref a0, .int (nI L0.length)])), (a0, .inl (cA, (100, .inl f0))), (r1, .inr (0, [.ref a1, .int (nI L1.length)])), (a1, .inl (cA, (100, .inl f1))), (r2, .inr (0, [.ref a2, .int (nI ((([] ++ turnL L0) ++ L1).length))])), (a2, .inl (cA, (100, .inl f3_4)))] := hD
  exact g_endMv hx hb hr hlocks hP hS dX1_thinkOfDifference_29 f3_4 rfl hw_5

abbrev mt_X1_plainAnswer_rm : Room := { frames := 2, cells := 0, slots := 0, locals := 43 }
set_option maxHeartbeats 4000000 in
set_option maxRecDepth 100000 in
/-- plainAnswer -/
theorem mt_X1_plainAnswer (l : Launch) (dC : Nat → ClassId) (dI : Nat → Nat → Nat) (cA : ClassId) (sz : Nat) (x0 : Nat) (r0 : Nat) (r1 : Nat) (r2 : Nat) (r3 : Nat) (R9 : Int32) (a : Nat) (Lt : List Int32) (f : Nat → Int32) (o : Option (Nat × List Int32)) (q : Nat) (hR : RI Lt f) (ho : ∀ z, o = some z → Lt = z.2 ∧ z.1 ≤ 100) (hq : q < 4) : Met l yX1_plainAnswer wsX1_plainAnswer mt_X1_plainAnswer_rm (va_Pc [.ref x0, .int (cuI o), .int (nI q)] (gB (dC, dI) [(cA, .int)] [(x0, .inr (1, [.ref r0, .ref r1, .ref r2, .ref r3, .int R9])), (r2, .inr (0, [.ref a, .int (nI Lt.length)])), (a, .inl (cA, (100, .inl f)))] sz)) (gR (some (.int (paI o q)))) 0 0 (fun _ => False) := by
  refine g_ofR (cc := cX1_plainAnswer) (maxL := 3) (ret := (some .int)) (by decide) rfl (Nat.le_of_ble_eq_true rfl) (fun p e s m below meth c ls hx hb hr hml hts hown hlocks hP hK hl hD => ?_)
  have hS : va_S (fun _ => True) s.heap s.heap [] := va_S.rf
  have hl : lv_has ls 3 [(0, .ref x0), (1, .int (cuI o)), (2, .int (nI q))] := hl
  have hL := hR.1
  refine lv_iload_n hx hb dX1_plainAnswer_0 rfl (lv_at hl 1 rfl) ?_
  refine lv_bipush (v := (-9)) hx hb dX1_plainAnswer_1 (by decide) ?_
  refine lv_icmp_ne (tgt := 9) hx hb dX1_plainAnswer_3 (by decide) (fun c3 => ?_) (fun c3 => ?_)
  · obtain ⟨z, c3⟩ := cuI_yes c3
    obtain ⟨hz1, hz2⟩ := ho z c3
    obtain rfl | rfl | rfl | rfl : q = 0 ∨ q = 1 ∨ q = 2 ∨ q = 3 := by omega
    · refine lv_iload_n hx hb dX1_plainAnswer_9 rfl (lv_at hl 2 rfl) ?_
      refine lv_tableIn (off := 26) (tgt := 36) hx hb dX1_plainAnswer_10 (by decide) (by decide) (by decide) (by decide) ?_
      refine lv_aload_n hx hb dX1_plainAnswer_36 rfl (lv_at hl 0 rfl) ?_
      refine va_get (D := (dC, dI)) (ci := 1) (v := .ref r2) (C := RX1) (T := TX1) (N := 5) hx hb hts (in_X1_plainAnswer_1) hown hK hP 0 rfl rfl 2 (by decide) (hts (.fieldLink RX1 19 "BraidWords" "thought" "LBraidWords$Row;") (List.mem_of_getElem? (i := 1) rfl)) (fun _ h9 => h9) rfl dX1_plainAnswer_37 ?_
      refine g_RVi (As := []) (rest := []) ⟨hx, hb, hml, hown, hts⟩ (mt_X0_size l dC dI cA s.heap.size r2 a (nI Lt.length) f) (cwV 0 hts gX1_plainAnswer_X0_size rfl rfl rfl hdX0_size ⟨Nat.le_of_ble_eq_true rfl, Nat.le_of_ble_eq_true rfl⟩) hP hK hD [1, 2] (by decide) rfl (va_recv hK hP (ci := 0) (q0 := 1) rfl rfl) rfl hl.1 rfl (Nat.le_of_ble_eq_true rfl) dX1_plainAnswer_40 (Nat.zero_le _) (Nat.zero_le _) ?_
      exact g_endRi hx hb hr hlocks dX1_plainAnswer_43 (by rw [c3, hz1]; rfl)
    · refine lv_iload_n hx hb dX1_plainAnswer_9 rfl (lv_at hl 2 rfl) ?_
      refine lv_tableIn (off := 34) (tgt := 44) hx hb dX1_plainAnswer_10 (by decide) (by decide) (by decide) (by decide) ?_
      refine lv_iload_n hx hb dX1_plainAnswer_44 rfl (lv_at hl 1 rfl) ?_
      exact g_endRi hx hb hr hlocks dX1_plainAnswer_45 (by rw [c3]; rfl)
    · refine lv_iload_n hx hb dX1_plainAnswer_9 rfl (lv_at hl 2 rfl) ?_
      refine lv_tableIn (off := 36) (tgt := 46) hx hb dX1_plainAnswer_10 (by decide) (by decide) (by decide) (by decide) ?_
      refine lv_aload_n hx hb dX1_plainAnswer_46 rfl (lv_at hl 0 rfl) ?_
      refine va_get (D := (dC, dI)) (ci := 1) (v := .ref r2) (C := RX1) (T := TX1) (N := 5) hx hb hts (in_X1_plainAnswer_1) hown hK hP 0 rfl rfl 2 (by decide) (hts (.fieldLink RX1 19 "BraidWords" "thought" "LBraidWords$Row;") (List.mem_of_getElem? (i := 1) rfl)) (fun _ h9 => h9) rfl dX1_plainAnswer_47 ?_
      refine g_RSi (As := [.ref r2]) (rest := []) ⟨hx, hb, hml, hown, hts⟩ (mt_X1_lowestLetter l dC dI cA s.heap.size r2 a Lt f hR) (va_cwS 1 hts gX1_plainAnswer_X1_lowestLetter rfl rfl rfl hdX1_lowestLetter ⟨Nat.le_of_ble_eq_true rfl, Nat.le_of_ble_eq_true rfl⟩) hP hK hD [1, 2] (by decide) rfl rfl hl.1 rfl (Nat.le_of_ble_eq_true rfl) dX1_plainAnswer_50 (Nat.zero_le _) (Nat.zero_le _) ?_
      refine g_RSi (As := [.int (loL Lt (Lt.length - 1))]) (rest := []) ⟨hx, hb, hml, hown, hts⟩ (mt_X1_signOf l dC dI cA s.heap.size (loL Lt (Lt.length - 1))) (va_cwS 1 hts gX1_plainAnswer_X1_signOf rfl rfl rfl hdX1_signOf ⟨Nat.le_of_ble_eq_true rfl, Nat.le_of_ble_eq_true rfl⟩) hP hK hD [] (by decide) rfl rfl hl.1 rfl (Nat.le_of_ble_eq_true rfl) dX1_plainAnswer_53 (Nat.zero_le _) (Nat.zero_le _) ?_
      exact g_endRi hx hb hr hlocks dX1_plainAnswer_56 (by rw [c3, hz1]; rfl)
    · refine lv_iload_n hx hb dX1_plainAnswer_9 rfl (lv_at hl 2 rfl) ?_
      refine lv_tableOut (tgt := 57) hx hb dX1_plainAnswer_10 (by decide) (by decide) ?_
      refine lv_aload_n hx hb dX1_plainAnswer_57 rfl (lv_at hl 0 rfl) ?_
      refine va_get (D := (dC, dI)) (ci := 1) (v := .ref r2) (C := RX1) (T := TX1) (N := 5) hx hb hts (in_X1_plainAnswer_1) hown hK hP 0 rfl rfl 2 (by decide) (hts (.fieldLink RX1 19 "BraidWords" "thought" "LBraidWords$Row;") (List.mem_of_getElem? (i := 1) rfl)) (fun _ h9 => h9) rfl dX1_plainAnswer_58 ?_
      refine g_RSi (As := [.ref r2]) (rest := []) ⟨hx, hb, hml, hown, hts⟩ (mt_X1_lowestLetter l dC dI cA s.heap.size r2 a Lt f hR) (va_cwS 1 hts gX1_plainAnswer_X1_lowestLetter rfl rfl rfl hdX1_lowestLetter ⟨Nat.le_of_ble_eq_true rfl, Nat.le_of_ble_eq_true rfl⟩) hP hK hD [1, 2] (by decide) rfl rfl hl.1 rfl (Nat.le_of_ble_eq_true rfl) dX1_plainAnswer_61 (Nat.zero_le _) (Nat.zero_le _) ?_
      refine g_RSi (As := [.int (loL Lt (Lt.length - 1))]) (rest := []) ⟨hx, hb, hml, hown, hts⟩ (mt_X1_heightOf l dC dI cA s.heap.size (loL Lt (Lt.length - 1))) (va_cwS 1 hts gX1_plainAnswer_X1_heightOf rfl rfl rfl hdX1_heightOf ⟨Nat.le_of_ble_eq_true rfl, Nat.le_of_ble_eq_true rfl⟩) hP hK hD [] (by decide) rfl rfl hl.1 rfl (Nat.le_of_ble_eq_true rfl) dX1_plainAnswer_64 (Nat.zero_le _) (Nat.zero_le _) ?_
      exact g_endRi hx hb hr hlocks dX1_plainAnswer_67 (by rw [c3, hz1]; rfl)
  · have c3 : o = none := cuI_no (fun z hz => (ho z hz).2) c3
    refine lv_bipush (v := (-9)) hx hb dX1_plainAnswer_6 (by decide) ?_
    exact g_endRi hx hb hr hlocks dX1_plainAnswer_8 (by rw [c3]; rfl)

abbrev mt_X1_sameAnswer_rm : Room := { frames := 1, cells := 0, slots := 0, locals := 20 }
set_option maxHeartbeats 4000000 in
set_option maxRecDepth 100000 in
/-- sameAnswer -/
theorem mt_X1_sameAnswer (l : Launch) (dC : Nat → ClassId) (dI : Nat → Nat → Nat) (cA : ClassId) (sz : Nat) (x0 : Nat) (r0 : Nat) (r1 : Nat) (r2 : Nat) (r3 : Nat) (R9 : Int32) (a : Nat) (Lt : List Int32) (f : Nat → Int32) (o : Option (Nat × List Int32)) (hR : RI Lt f) (ho : ∀ z, o = some z → Lt = z.2 ∧ z.1 ≤ 100) : Met l yX1_sameAnswer wsX1_sameAnswer mt_X1_sameAnswer_rm (va_Pc [.ref x0, .int (cuI o)] (gB (dC, dI) [(cA, .int)] [(x0, .inr (1, [.ref r0, .ref r1, .ref r2, .ref r3, .int R9])), (r2, .inr (0, [.ref a, .int (nI Lt.length)])), (a, .inl (cA, (100, .inl f)))] sz)) (gR (some (.int (saI o)))) 0 0 (fun _ => False) := by
  refine g_ofR (cc := cX1_sameAnswer) (maxL := 2) (ret := (some .int)) (by decide) rfl (Nat.le_of_ble_eq_true rfl) (fun p e s m below meth c ls hx hb hr hml hts hown hlocks hP hK hl hD => ?_)
  have hS : va_S (fun _ => True) s.heap s.heap [] := va_S.rf
  have hl : lv_has ls 2 [(0, .ref x0), (1, .int (cuI o))] := hl
  have hL := hR.1
  refine lv_iload_n hx hb dX1_sameAnswer_0 rfl (lv_at hl 1 rfl) ?_
  refine lv_bipush (v := (-9)) hx hb dX1_sameAnswer_1 (by decide) ?_
  refine lv_icmp_ne (tgt := 9) hx hb dX1_sameAnswer_3 (by decide) (fun c3 => ?_) (fun c3 => ?_)
  · obtain ⟨z, c3⟩ := cuI_yes c3
    obtain ⟨hz1, hz2⟩ := ho z c3
    refine lv_aload_n hx hb dX1_sameAnswer_9 rfl (lv_at hl 0 rfl) ?_
    refine va_get (D := (dC, dI)) (ci := 1) (v := .ref r2) (C := RX1) (T := TX1) (N := 5) hx hb hts (in_X1_sameAnswer_1) hown hK hP 0 rfl rfl 2 (by decide) (hts (.fieldLink RX1 19 "BraidWords" "thought" "LBraidWords$Row;") (List.mem_of_getElem? (i := 1) rfl)) (fun _ h9 => h9) rfl dX1_sameAnswer_10 ?_
    refine g_RVi (As := []) (rest := []) ⟨hx, hb, hml, hown, hts⟩ (mt_X0_size l dC dI cA s.heap.size r2 a (nI Lt.length) f) (cwV 0 hts gX1_sameAnswer_X0_size rfl rfl rfl hdX0_size ⟨Nat.le_of_ble_eq_true rfl, Nat.le_of_ble_eq_true rfl⟩) hP hK hD [1, 2] (by decide) rfl (va_recv hK hP (ci := 0) (q0 := 1) rfl rfl) rfl hl.1 rfl (Nat.le_of_ble_eq_true rfl) dX1_sameAnswer_13 (Nat.zero_le _) (Nat.zero_le _) ?_
    refine lv_if_ne (tgt := 23) hx hb dX1_sameAnswer_16 (by decide) (fun c16 => ?_) (fun c16 => ?_)
    · have c16 : ¬ Lt.length = 0 := g_neT Lt.length 0 (by omega) (by omega) c16
      refine lv_iconst (v := 0) hx hb dX1_sameAnswer_23 (by decide) ?_
      exact g_endRi hx hb hr hlocks dX1_sameAnswer_24 (by rw [c3]; show _ = (if z.2.length = 0 then 1 else 0); rw [← hz1]; first | (rw [if_pos (by omega)]; done) | (rw [if_neg (by omega)]; done))
    · have c16 : Lt.length = 0 := g_neF Lt.length 0 (by omega) (by omega) c16
      refine lv_iconst (v := 1) hx hb dX1_sameAnswer_19 (by decide) ?_
      refine lv_goto (tgt := 24) hx hb dX1_sameAnswer_20 (by decide) ?_
      exact g_endRi hx hb hr hlocks dX1_sameAnswer_24 (by rw [c3]; show _ = (if z.2.length = 0 then 1 else 0); rw [← hz1]; first | (rw [if_pos (by omega)]; done) | (rw [if_neg (by omega)]; done))
  · have c3 : o = none := cuI_no (fun z hz => (ho z hz).2) c3
    refine lv_bipush (v := (-9)) hx hb dX1_sameAnswer_6 (by decide) ?_
    exact g_endRi hx hb hr hlocks dX1_sameAnswer_8 (by rw [c3]; rfl)

abbrev mt_X1_signAnswer_rm : Room := { frames := 3, cells := 0, slots := 0, locals := 65 }
set_option maxHeartbeats 4000000 in
set_option maxRecDepth 100000 in
/-- signAnswer -/
theorem mt_X1_signAnswer (l : Launch) (dC : Nat → ClassId) (dI : Nat → Nat → Nat) (cA : ClassId) (sz : Nat) (x0 : Nat) (r0 : Nat) (r1 : Nat) (r2 : Nat) (r3 : Nat) (R9 : Int32) (a : Nat) (Lt : List Int32) (f : Nat → Int32) (o : Option (Nat × List Int32)) (hR : RI Lt f) (ho : ∀ z, o = some z → Lt = z.2 ∧ z.1 ≤ 100) : Met l yX1_signAnswer wsX1_signAnswer mt_X1_signAnswer_rm (va_Pc [.ref x0, .int (cuI o)] (gB (dC, dI) [(cA, .int)] [(x0, .inr (1, [.ref r0, .ref r1, .ref r2, .ref r3, .int R9])), (r2, .inr (0, [.ref a, .int (nI Lt.length)])), (a, .inl (cA, (100, .inl f)))] sz)) (gR (some (.int (paI o 2)))) 0 0 (fun _ => False) := by
  refine g_ofR (cc := cX1_signAnswer) (maxL := 2) (ret := (some .int)) (by decide) rfl (Nat.le_of_ble_eq_true rfl) (fun p e s m below meth c ls hx hb hr hml hts hown hlocks hP hK hl hD => ?_)
  have hS : va_S (fun _ => True) s.heap s.heap [] := va_S.rf
  have hl : lv_has ls 2 [(0, .ref x0), (1, .int (cuI o))] := hl
  have hL := hR.1
  refine lv_aload_n hx hb dX1_signAnswer_0 rfl (lv_at hl 0 rfl) ?_
  refine lv_iload_n hx hb dX1_signAnswer_1 rfl (lv_at hl 1 rfl) ?_
  refine lv_iconst (v := 2) hx hb dX1_signAnswer_2 (by decide) ?_
  refine g_RVi (As := [.int (cuI o), .int 2]) (rest := []) ⟨hx, hb, hml, hown, hts⟩ (mt_X1_plainAnswer l dC dI cA s.heap.size x0 r0 r1 r2 r3 R9 a Lt f o 2 hR ho (by first | omega | (simp only [List.length_append, List.length_cons, List.length_nil, List.length_set, turnL_len]; omega))) (cwV 2 hts gX1_signAnswer_X1_plainAnswer rfl rfl rfl hdX1_plainAnswer ⟨Nat.le_of_ble_eq_true rfl, Nat.le_of_ble_eq_true rfl⟩) hP hK hD [0, 1, 2] (by decide) rfl (va_recv hK hP (ci := 1) (q0 := 0) rfl rfl) rfl hl.1 rfl (Nat.le_of_ble_eq_true rfl) dX1_signAnswer_3 (Nat.zero_le _) (Nat.zero_le _) ?_
  exact g_endRi hx hb hr hlocks dX1_signAnswer_6 rfl

abbrev mt_X1_plainLettersWith_rm : Room := { frames := 4, cells := 0, slots := 0, locals := 95 }
abbrev mt_X1_letterForFewest_rm : Room := { frames := 5, cells := 0, slots := 0, locals := 117 }
abbrev mt_X1_countAnswer_rm : Room := { frames := 2, cells := 0, slots := 0, locals := 43 }
set_option maxHeartbeats 4000000 in
set_option maxRecDepth 100000 in
/-- countAnswer -/
theorem mt_X1_countAnswer (l : Launch) (dC : Nat → ClassId) (dI : Nat → Nat → Nat) (cA : ClassId) (sz : Nat) (x0 : Nat) (r0 : Nat) (r1 : Nat) (r2 : Nat) (r3 : Nat) (rn : Nat) (a0 : Nat) (a1 : Nat) (L0 : List Int32) (f0 : Nat → Int32) (L1 : List Int32) (f1 : Nat → Int32) (q : Nat) (hR0 : RI L0 f0) (hR1 : RI L1 f1) (hq : q < 5) : Met l yX1_countAnswer wsX1_countAnswer mt_X1_countAnswer_rm (va_Pc [.ref x0, .int (nI q)] (gB (dC, dI) [(cA, .int)] [(x0, .inr (1, [.ref r0, .ref r1, .ref r2, .ref r3, .int (nI rn)])), (r0, .inr (0, [.ref a0, .int (nI L0.length)])), (a0, .inl (cA, (100, .inl f0))), (r1, .inr (0, [.ref a1, .int (nI L1.length)])), (a1, .inl (cA, (100, .inl f1)))] sz)) (gR (some (.int (coI rn L0 L1 q)))) 0 0 (fun _ => False) := by
  refine g_ofR (cc := cX1_countAnswer) (maxL := 2) (ret := (some .int)) (by decide) rfl (Nat.le_of_ble_eq_true rfl) (fun p e s m below meth c ls hx hb hr hml hts hown hlocks hP hK hl hD => ?_)
  have hS : va_S (fun _ => True) s.heap s.heap [] := va_S.rf
  have hl : lv_has ls 2 [(0, .ref x0), (1, .int (nI q))] := hl
  obtain rfl | rfl | rfl | rfl | rfl : q = 0 ∨ q = 1 ∨ q = 2 ∨ q = 3 ∨ q = 4 := by omega
  · refine lv_iload_n hx hb dX1_countAnswer_0 rfl (lv_at hl 1 rfl) ?_
    refine lv_tableIn (off := 31) (tgt := 32) hx hb dX1_countAnswer_1 (by decide) (by decide) (by decide) (by decide) ?_
    refine lv_aload_n hx hb dX1_countAnswer_32 rfl (lv_at hl 0 rfl) ?_
    refine va_get (D := (dC, dI)) (ci := 1) (v := .int (nI rn)) (C := RX1) (T := TX1) (N := 5) hx hb hts (in_X1_countAnswer_1) hown hK hP 0 rfl rfl 4 (by decide) (hts (.fieldLink RX1 25 "BraidWords" "ropes" "I") (List.mem_of_getElem? (i := 1) rfl)) (fun _ h9 => h9) rfl dX1_countAnswer_33 ?_
    exact g_endRi hx hb hr hlocks dX1_countAnswer_36 rfl
  · refine lv_iload_n hx hb dX1_countAnswer_0 rfl (lv_at hl 1 rfl) ?_
    refine lv_tableIn (off := 36) (tgt := 37) hx hb dX1_countAnswer_1 (by decide) (by decide) (by decide) (by decide) ?_
    refine lv_aload_n hx hb dX1_countAnswer_37 rfl (lv_at hl 0 rfl) ?_
    refine va_get (D := (dC, dI)) (ci := 1) (v := .ref r0) (C := RX1) (T := TX1) (N := 5) hx hb hts (in_X1_countAnswer_1) hown hK hP 0 rfl rfl 0 (by decide) (hts (.fieldLink RX1 10 "BraidWords" "word0" "LBraidWords$Row;") (List.mem_of_getElem? (i := 2) rfl)) (fun _ h9 => h9) rfl dX1_countAnswer_38 ?_
    refine g_RVi (As := []) (rest := []) ⟨hx, hb, hml, hown, hts⟩ (mt_X0_size l dC dI cA s.heap.size r0 a0 (nI L0.length) f0) (cwV 0 hts gX1_countAnswer_X0_size rfl rfl rfl hdX0_size ⟨Nat.le_of_ble_eq_true rfl, Nat.le_of_ble_eq_true rfl⟩) hP hK hD [1, 2] (by decide) rfl (va_recv hK hP (ci := 0) (q0 := 1) rfl rfl) rfl hl.1 rfl (Nat.le_of_ble_eq_true rfl) dX1_countAnswer_41 (Nat.zero_le _) (Nat.zero_le _) ?_
    exact g_endRi hx hb hr hlocks dX1_countAnswer_44 rfl
  · refine lv_iload_n hx hb dX1_countAnswer_0 rfl (lv_at hl 1 rfl) ?_
    refine lv_tableIn (off := 44) (tgt := 45) hx hb dX1_countAnswer_1 (by decide) (by decide) (by decide) (by decide) ?_
    refine lv_aload_n hx hb dX1_countAnswer_45 rfl (lv_at hl 0 rfl) ?_
    refine va_get (D := (dC, dI)) (ci := 1) (v := .ref r1) (C := RX1) (T := TX1) (N := 5) hx hb hts (in_X1_countAnswer_1) hown hK hP 0 rfl rfl 1 (by decide) (hts (.fieldLink RX1 16 "BraidWords" "word1" "LBraidWords$Row;") (List.mem_of_getElem? (i := 3) rfl)) (fun _ h9 => h9) rfl dX1_countAnswer_46 ?_
    refine g_RVi (As := []) (rest := []) ⟨hx, hb, hml, hown, hts⟩ (mt_X0_size l dC dI cA s.heap.size r1 a1 (nI L1.length) f1) (cwV 0 hts gX1_countAnswer_X0_size rfl rfl rfl hdX0_size ⟨Nat.le_of_ble_eq_true rfl, Nat.le_of_ble_eq_true rfl⟩) hP hK hD [3, 4] (by decide) rfl (va_recv hK hP (ci := 0) (q0 := 3) rfl rfl) rfl hl.1 rfl (Nat.le_of_ble_eq_true rfl) dX1_countAnswer_49 (Nat.zero_le _) (Nat.zero_le _) ?_
    exact g_endRi hx hb hr hlocks dX1_countAnswer_52 rfl
  · refine lv_iload_n hx hb dX1_countAnswer_0 rfl (lv_at hl 1 rfl) ?_
    refine lv_tableIn (off := 52) (tgt := 53) hx hb dX1_countAnswer_1 (by decide) (by decide) (by decide) (by decide) ?_
    refine lv_aload_n hx hb dX1_countAnswer_53 rfl (lv_at hl 0 rfl) ?_
    refine va_get (D := (dC, dI)) (ci := 1) (v := .ref r0) (C := RX1) (T := TX1) (N := 5) hx hb hts (in_X1_countAnswer_1) hown hK hP 0 rfl rfl 0 (by decide) (hts (.fieldLink RX1 10 "BraidWords" "word0" "LBraidWords$Row;") (List.mem_of_getElem? (i := 2) rfl)) (fun _ h9 => h9) rfl dX1_countAnswer_54 ?_
    refine g_RSi (As := [.ref r0]) (rest := []) ⟨hx, hb, hml, hown, hts⟩ (mt_X1_signsAdded l dC dI cA s.heap.size r0 a0 L0 f0 hR0) (va_cwS 1 hts gX1_countAnswer_X1_signsAdded rfl rfl rfl hdX1_signsAdded ⟨Nat.le_of_ble_eq_true rfl, Nat.le_of_ble_eq_true rfl⟩) hP hK hD [1, 2] (by decide) rfl rfl hl.1 rfl (Nat.le_of_ble_eq_true rfl) dX1_countAnswer_57 (Nat.zero_le _) (Nat.zero_le _) ?_
    exact g_endRi hx hb hr hlocks dX1_countAnswer_60 rfl
  · refine lv_iload_n hx hb dX1_countAnswer_0 rfl (lv_at hl 1 rfl) ?_
    refine lv_tableOut (tgt := 61) hx hb dX1_countAnswer_1 (by decide) (by decide) ?_
    refine lv_aload_n hx hb dX1_countAnswer_61 rfl (lv_at hl 0 rfl) ?_
    refine va_get (D := (dC, dI)) (ci := 1) (v := .ref r1) (C := RX1) (T := TX1) (N := 5) hx hb hts (in_X1_countAnswer_1) hown hK hP 0 rfl rfl 1 (by decide) (hts (.fieldLink RX1 16 "BraidWords" "word1" "LBraidWords$Row;") (List.mem_of_getElem? (i := 3) rfl)) (fun _ h9 => h9) rfl dX1_countAnswer_62 ?_
    refine g_RSi (As := [.ref r1]) (rest := []) ⟨hx, hb, hml, hown, hts⟩ (mt_X1_signsAdded l dC dI cA s.heap.size r1 a1 L1 f1 hR1) (va_cwS 1 hts gX1_countAnswer_X1_signsAdded rfl rfl rfl hdX1_signsAdded ⟨Nat.le_of_ble_eq_true rfl, Nat.le_of_ble_eq_true rfl⟩) hP hK hD [3, 4] (by decide) rfl rfl hl.1 rfl (Nat.le_of_ble_eq_true rfl) dX1_countAnswer_65 (Nat.zero_le _) (Nat.zero_le _) ?_
    exact g_endRi hx hb hr hlocks dX1_countAnswer_68 rfl

abbrev mt_X1_digestedWord_rm : Room := { frames := 4, cells := 0, slots := 0, locals := 95 }