/-! 32: the law's helpers, a case each -/
theorem hdX1_about : yX1_about.cls = RX1 ∧ yX1_about.cls ≠ "java/lang/invoke/MethodHandle" ∧ yX1_about.cls ≠ "java/lang/invoke/VarHandle" ∧ (parseMethodDescriptor yX1_about.desc).map (fun d => d.parameters.length) = some 2 := by decide +kernel
theorem hdX1_advise : yX1_advise.cls = RX1 ∧ yX1_advise.cls ≠ "java/lang/invoke/MethodHandle" ∧ yX1_advise.cls ≠ "java/lang/invoke/VarHandle" ∧ (parseMethodDescriptor yX1_advise.desc).map (fun d => d.parameters.length) = some 1 := by decide +kernel
theorem hdX1_count : yX1_count.cls = RX1 ∧ yX1_count.cls ≠ "java/lang/invoke/MethodHandle" ∧ yX1_count.cls ≠ "java/lang/invoke/VarHandle" ∧ (parseMethodDescriptor yX1_count.desc).map (fun d => d.parameters.length) = some 1 := by decide +kernel
theorem hdX1_crosses : yX1_crosses.cls = RX1 ∧ yX1_crosses.cls ≠ "java/lang/invoke/MethodHandle" ∧ yX1_crosses.cls ≠ "java/lang/invoke/VarHandle" ∧ (parseMethodDescriptor yX1_crosses.desc).map (fun d => d.parameters.length) = some 3 := by decide +kernel
theorem hdX1_cut : yX1_cut.cls = RX1 ∧ yX1_cut.cls ≠ "java/lang/invoke/MethodHandle" ∧ yX1_cut.cls ≠ "java/lang/invoke/VarHandle" ∧ (parseMethodDescriptor yX1_cut.desc).map (fun d => d.parameters.length) = some 1 := by decide +kernel
theorem hdX1_end : yX1_end.cls = RX1 ∧ yX1_end.cls ≠ "java/lang/invoke/MethodHandle" ∧ yX1_end.cls ≠ "java/lang/invoke/VarHandle" ∧ (parseMethodDescriptor yX1_end.desc).map (fun d => d.parameters.length) = some 2 := by decide +kernel
theorem hdX1_handle : yX1_handle.cls = RX1 ∧ yX1_handle.cls ≠ "java/lang/invoke/MethodHandle" ∧ yX1_handle.cls ≠ "java/lang/invoke/VarHandle" ∧ (parseMethodDescriptor yX1_handle.desc).map (fun d => d.parameters.length) = some 2 := by decide +kernel
theorem hdX1_insert : yX1_insert.cls = RX1 ∧ yX1_insert.cls ≠ "java/lang/invoke/MethodHandle" ∧ yX1_insert.cls ≠ "java/lang/invoke/VarHandle" ∧ (parseMethodDescriptor yX1_insert.desc).map (fun d => d.parameters.length) = some 3 := by decide +kernel
theorem hdX1_join : yX1_join.cls = RX1 ∧ yX1_join.cls ≠ "java/lang/invoke/MethodHandle" ∧ yX1_join.cls ≠ "java/lang/invoke/VarHandle" ∧ (parseMethodDescriptor yX1_join.desc).map (fun d => d.parameters.length) = some 1 := by decide +kernel
theorem hdX1_letter : yX1_letter.cls = RX1 ∧ yX1_letter.cls ≠ "java/lang/invoke/MethodHandle" ∧ yX1_letter.cls ≠ "java/lang/invoke/VarHandle" ∧ (parseMethodDescriptor yX1_letter.desc).map (fun d => d.parameters.length) = some 2 := by decide +kernel
theorem hdX1_plain : yX1_plain.cls = RX1 ∧ yX1_plain.cls ≠ "java/lang/invoke/MethodHandle" ∧ yX1_plain.cls ≠ "java/lang/invoke/VarHandle" ∧ (parseMethodDescriptor yX1_plain.desc).map (fun d => d.parameters.length) = some 2 := by decide +kernel
theorem hdX1_setRopes : yX1_setRopes.cls = RX1 ∧ yX1_setRopes.cls ≠ "java/lang/invoke/MethodHandle" ∧ yX1_setRopes.cls ≠ "java/lang/invoke/VarHandle" ∧ (parseMethodDescriptor yX1_setRopes.desc).map (fun d => d.parameters.length) = some 1 := by decide +kernel
theorem hdX1_swap : yX1_swap.cls = RX1 ∧ yX1_swap.cls ≠ "java/lang/invoke/MethodHandle" ∧ yX1_swap.cls ≠ "java/lang/invoke/VarHandle" ∧ (parseMethodDescriptor yX1_swap.desc).map (fun d => d.parameters.length) = some 2 := by decide +kernel
theorem hdX1_turn : yX1_turn.cls = RX1 ∧ yX1_turn.cls ≠ "java/lang/invoke/MethodHandle" ∧ yX1_turn.cls ≠ "java/lang/invoke/VarHandle" ∧ (parseMethodDescriptor yX1_turn.desc).map (fun d => d.parameters.length) = some 1 := by decide +kernel
theorem hdX1_twist : yX1_twist.cls = RX1 ∧ yX1_twist.cls ≠ "java/lang/invoke/MethodHandle" ∧ yX1_twist.cls ≠ "java/lang/invoke/VarHandle" ∧ (parseMethodDescriptor yX1_twist.desc).map (fun d => d.parameters.length) = some 2 := by decide +kernel
theorem hdX1_untwist : yX1_untwist.cls = RX1 ∧ yX1_untwist.cls ≠ "java/lang/invoke/MethodHandle" ∧ yX1_untwist.cls ≠ "java/lang/invoke/VarHandle" ∧ (parseMethodDescriptor yX1_untwist.desc).map (fun d => d.parameters.length) = some 1 := by decide +kernel
abbrev mt_L_setRopes_rm : Room := { frames := 2, cells := 0, slots := 0, locals := 42 }
set_option maxHeartbeats 4000000 in
set_option maxRecDepth 100000 in
theorem mt_L_setRopes (l : Launch) (htr : l.stackTraces = false) (dC : Nat → ClassId) (dI : Nat → Nat → Nat) (cA cL : ClassId) (sz : Nat) (x0 : Nat) (r0 : Nat) (r1 : Nat) (r2 : Nat) (r3 : Nat) (rn : Nat) (a0 : Nat) (a1 : Nat) (L0 : List Int32) (f0 : Nat → Int32) (L1 : List Int32) (f1 : Nat → Int32) (rq : Nat) (o : Nat) (fo : Nat → Int64) (h3 : 3 ≤ rq) (h6 : rq ≤ 6) : Met l yL_setRopes wsL_setRopes mt_L_setRopes_rm (va_Pc [.ref x0, .int (nI rq), .ref o] (gBT (dC, dI) [(cA, .int), (cL, .long)] [(x0, .inr (1, [.ref r0, .ref r1, .ref r2, .ref r3, .int (nI rn)])), (r0, .inr (0, [.ref a0, .int (nI L0.length)])), (a0, .inl (cA, (100, .inl f0))), (r1, .inr (0, [.ref a1, .int (nI L1.length)])), (a1, .inl (cA, (100, .inl f1))), (o, .inl (cL, (1, .inr (.inl fo))))] sz)) (gM (dC, dI) (some (.int 0)) (fun u : Unit => True) (fun u : Unit => [(x0, .inr (1, [.ref r0, .ref r1, .ref r2, .ref r3, .int (nI rq)])), (r0, .inr (0, [.ref a0, .int (nI (([] : List Int32).length))])), (a0, .inl (cA, (100, .inl f0))), (r1, .inr (0, [.ref a1, .int (nI (([] : List Int32).length))])), (a1, .inl (cA, (100, .inl f1))), (o, .inl (cL, (1, .inr (.inl (vp_updL fo 0 (nI rn).toInt64)))))]) (va_A [(x0, .inr (1, [.ref r0, .ref r1, .ref r2, .ref r3, .int (nI rn)])), (r0, .inr (0, [.ref a0, .int (nI L0.length)])), (a0, .inl (cA, (100, .inl f0))), (r1, .inr (0, [.ref a1, .int (nI L1.length)])), (a1, .inl (cA, (100, .inl f1))), (o, .inl (cL, (1, .inr (.inl fo))))] sz)) 0 0 (va_A [(x0, .inr (1, [.ref r0, .ref r1, .ref r2, .ref r3, .int (nI rn)])), (r0, .inr (0, [.ref a0, .int (nI L0.length)])), (a0, .inl (cA, (100, .inl f0))), (r1, .inr (0, [.ref a1, .int (nI L1.length)])), (a1, .inl (cA, (100, .inl f1))), (o, .inl (cL, (1, .inr (.inl fo))))] sz) := by
  refine g_ofH (cc := cL_setRopes) (maxL := 4) (ret := (some .int)) (by decide) rfl (Nat.le_of_ble_eq_true rfl) (fun p e s m below meth c ls hx hb hr hml hts hown hlocks htab hP hKl hl A hA hD hS hZ => ?_)
  have hK : va_K (dC, dI) vwCl [(cA, .int)] s := hKl.sub [0] rfl
  have hl : lv_has ls 4 [(0, .ref x0), (1, .int (nI rq)), (2, .ref o)] := hl
  refine lv_aload_n hx hb dL_setRopes_0 rfl (lv_at hl 2 rfl) ?_
  refine lv_iconst (v := 0) hx hb dL_setRopes_1 (by decide) ?_
  refine lv_aload_n hx hb dL_setRopes_2 rfl (lv_at hl 0 rfl) ?_
  refine lv_iload_n hx hb dL_setRopes_3 rfl (lv_at hl 1 rfl) ?_
  refine g_MVi (As := [.int (nI rq)]) (rest := [.int 0, .ref o]) ⟨hx, hb, hml, hown, hts⟩ (mt_X1_setRopes l dC dI cA s.heap.size x0 r0 r1 r2 r3 rn a0 a1 L0 f0 L1 f1 rq h3 h6) (cwV 1 hts gL_setRopes_X1_setRopes rfl rfl rfl hdX1_setRopes ⟨Nat.le_of_ble_eq_true rfl, Nat.le_of_ble_eq_true rfl⟩) hP hK hD hS hA [0, 1, 2, 3, 4] (by decide) rfl (va_recv hK hP (ci := 1) (q0 := 0) rfl rfl) rfl hl.1 rfl (Nat.le_of_ble_eq_true rfl) dL_setRopes_4 (Nat.zero_le _) (Nat.zero_le _) (fun u9 => [(x0, .inr (1, [.ref r0, .ref r1, .ref r2, .ref r3, .int (nI rq)])), (r0, .inr (0, [.ref a0, .int (nI (([] : List Int32).length))])), (a0, .inl (cA, (100, .inl f0))), (r1, .inr (0, [.ref a1, .int (nI (([] : List Int32).length))])), (a1, .inl (cA, (100, .inl f1))), (o, .inl (cL, (1, .inr (.inl fo))))]) (fun _ => rfl) (fun _ => rfl) (fun u H locs hw_1 hP hD hS => ?_)
  have hw_1 : True := hw_1
  have hP : va_P (dC, dI) vwCl [(x0, .inr (1, [.ref r0, .ref r1, .ref r2, .ref r3, .int (nI rq)])), (r0, .inr (0, [.ref a0, .int (nI (([] : List Int32).length))])), (a0, .inl (cA, (100, .inl f0))), (r1, .inr (0, [.ref a1, .int (nI (([] : List Int32).length))])), (a1, .inl (cA, (100, .inl f1))), (o, .inl (cL, (1, .inr (.inl fo))))] H := hP
  have hD : va_D A [(x0, .inr (1, [.ref r0, .ref r1, .ref r2, .ref r3, .int (nI rq)])), (r0, .inr (0, [.ref a0, .int (nI (([] : List Int32).length))])), (a0, .inl (cA, (100, .inl f0))), (r1, .inr (0, [.ref a1, .int (nI (([] : List Int32).length))])), (a1, .inl (cA, (100, .inl f1))), (o, .inl (cL, (1, .inr (.inl fo))))] := hD
  refine lv_i2l (v := (nI rn).toInt64) hx hb dL_setRopes_7 rfl ?_
  refine va_last hx hb hKl hP hD hS 5 1 rfl rfl (vp_in_nI (n := 0) (by omega) (by decide)) dL_setRopes_8 (fun H locs hP hD hS => ?_)
  rw [show (0 : Int32).toNatClampNeg = 0 from by decide] at hP hD
  have hP : va_P (dC, dI) vwCl [(x0, .inr (1, [.ref r0, .ref r1, .ref r2, .ref r3, .int (nI rq)])), (r0, .inr (0, [.ref a0, .int (nI (([] : List Int32).length))])), (a0, .inl (cA, (100, .inl f0))), (r1, .inr (0, [.ref a1, .int (nI (([] : List Int32).length))])), (a1, .inl (cA, (100, .inl f1))), (o, .inl (cL, (1, .inr (.inl (vp_updL fo 0 ((nI rn).toInt64))))))] H := hP
  have hD : va_D A [(x0, .inr (1, [.ref r0, .ref r1, .ref r2, .ref r3, .int (nI rq)])), (r0, .inr (0, [.ref a0, .int (nI (([] : List Int32).length))])), (a0, .inl (cA, (100, .inl f0))), (r1, .inr (0, [.ref a1, .int (nI (([] : List Int32).length))])), (a1, .inl (cA, (100, .inl f1))), (o, .inl (cL, (1, .inr (.inl (vp_updL fo 0 ((nI rn).toInt64))))))] := hD
  refine lv_goto (tgt := 15) hx hb dL_setRopes_9 (by decide) ?_
  refine lv_iconst (v := 0) hx hb dL_setRopes_15 (by decide) ?_
  exact g_endMi hx hb hr hlocks hP hS dL_setRopes_16 () rfl rfl trivial

abbrev mt_L_setRopes_1_rm : Room := { frames := 7, cells := 1, slots := 6, locals := 112 }
set_option maxHeartbeats 4000000 in
set_option maxRecDepth 100000 in
theorem mt_L_setRopes_1 (l : Launch) (htr : l.stackTraces = false) (dC : Nat → ClassId) (dI : Nat → Nat → Nat) (cA cL : ClassId) (sz : Nat) (x0 : Nat) (x : Int32) (r0 : Nat) (r1 : Nat) (r2 : Nat) (r3 : Nat) (R9 : Int32) (o : Nat) (fo : Nat → Int64) (hbad : x < 3 ∨ 6 < x) : Met l yL_setRopes wsL_setRopes mt_L_setRopes_1_rm (va_Pc [.ref x0, .int x, .ref o] (gBT (dC, dI) [(cA, .int), (cL, .long)] [(x0, .inr (1, [.ref r0, .ref r1, .ref r2, .ref r3, .int R9])), (o, .inl (cL, (1, .inr (.inl fo))))] sz)) (gM (dC, dI) (some (.int 1)) (fun u : Unit => True) (fun u : Unit => [(x0, .inr (1, [.ref r0, .ref r1, .ref r2, .ref r3, .int R9])), (o, .inl (cL, (1, .inr (.inl fo))))]) (va_A [(x0, .inr (1, [.ref r0, .ref r1, .ref r2, .ref r3, .int R9])), (o, .inl (cL, (1, .inr (.inl fo))))] sz)) 1 6 (va_A [(x0, .inr (1, [.ref r0, .ref r1, .ref r2, .ref r3, .int R9])), (o, .inl (cL, (1, .inr (.inl fo))))] sz) := by
  refine g_ofH (cc := cL_setRopes) (maxL := 4) (ret := (some .int)) (by decide) rfl (Nat.le_of_ble_eq_true rfl) (fun p e s m below meth c ls hx hb hr hml hts hown hlocks htab hP hKl hl A hA hD hS hZ => ?_)
  have hK : va_K (dC, dI) vwCl [(cA, .int)] s := hKl.sub [0] rfl
  have hl : lv_has ls 4 [(0, .ref x0), (1, .int x), (2, .ref o)] := hl
  refine lv_aload_n hx hb dL_setRopes_0 rfl (lv_at hl 2 rfl) ?_
  refine lv_iconst (v := 0) hx hb dL_setRopes_1 (by decide) ?_
  refine lv_aload_n hx hb dL_setRopes_2 rfl (lv_at hl 0 rfl) ?_
  refine lv_iload_n hx hb dL_setRopes_3 rfl (lv_at hl 1 rfl) ?_
  refine g_HT (As := [.int x]) (rest := [.int 0, .ref o]) (E := gIA) ⟨hx, hb, hml, hown, hts⟩ (th_X1_setRopes_1 l htr dC dI cA s.heap.size x0 x hbad) (cwV 1 hts gL_setRopes_X1_setRopes rfl rfl rfl hdX1_setRopes ⟨Nat.le_of_ble_eq_true rfl, Nat.le_of_ble_eq_true rfl⟩) hP hK hD hS hA hZ [] (by decide) rfl (va_recv hK hP (ci := 1) (q0 := 0) rfl rfl) rfl hl.1 rfl (Nat.le_of_ble_eq_true rfl) dL_setRopes_4 (Nat.le_of_ble_eq_true rfl) (Nat.le_of_ble_eq_true rfl) (own := RL) hown [] ⟨0, 9, 12, 13⟩ [] (by rw [htab]; rfl) (fun z hz => absurd hz List.not_mem_nil) (by decide) (by decide) (hts (.classLink RL 13 "java/lang/IllegalArgumentException") (List.mem_of_getElem? (i := 1) rfl)) (List.mem_of_getElem? (i := 0) rfl) (fun q9 H locs hP hS => ?_)
  refine lv_astore_n (lv' := [(3, .ref q9), (0, .ref x0), (1, .int x), (2, .ref o)]) hx hb dL_setRopes_12 rfl hl (by decide) rfl (fun ls hl => ?_)
  refine lv_iconst (v := 1) hx hb dL_setRopes_13 (by decide) ?_
  exact g_endMi hx hb hr hlocks hP hS dL_setRopes_14 () rfl rfl trivial

abbrev mt_L_twist0_rm : Room := { frames := 3, cells := 0, slots := 0, locals := 64 }
set_option maxHeartbeats 4000000 in
set_option maxRecDepth 100000 in
theorem mt_L_twist0 (l : Launch) (htr : l.stackTraces = false) (dC : Nat → ClassId) (dI : Nat → Nat → Nat) (cA cL : ClassId) (sz : Nat) (x0 : Nat) (r0 : Nat) (r1 : Nat) (r2 : Nat) (r3 : Nat) (rn : Nat) (a0 : Nat) (L : List Int32) (f : Nat → Int32) (x : Int32) (o : Nat) (fo : Nat → Int64) (hR : RI L f) (h0 : ¬ x = 0) (h1 : ¬ x ≤ -nI rn) (h2 : x < nI rn) (hk : L.length < 30) : Met l yL_twist wsL_twist mt_L_twist0_rm (va_Pc [.ref x0, .int (nI 0), .int x, .ref o] (gBT (dC, dI) [(cA, .int), (cL, .long)] [(x0, .inr (1, [.ref r0, .ref r1, .ref r2, .ref r3, .int (nI rn)])), (r0, .inr (0, [.ref a0, .int (nI L.length)])), (a0, .inl (cA, (100, .inl f))), (o, .inl (cL, (1, .inr (.inl fo))))] sz)) (gM (dC, dI) (some (.int 0)) (fun u : (Nat → Int32) => RI (L ++ [x]) u) (fun u : (Nat → Int32) => [(x0, .inr (1, [.ref r0, .ref r1, .ref r2, .ref r3, .int (nI rn)])), (r0, .inr (0, [.ref a0, .int (nI ((L ++ [x]).length))])), (a0, .inl (cA, (100, .inl u))), (o, .inl (cL, (1, .inr (.inl (vp_updL fo 0 (nI ((L ++ [x]).length)).toInt64)))))]) (va_A [(x0, .inr (1, [.ref r0, .ref r1, .ref r2, .ref r3, .int (nI rn)])), (r0, .inr (0, [.ref a0, .int (nI L.length)])), (a0, .inl (cA, (100, .inl f))), (o, .inl (cL, (1, .inr (.inl fo))))] sz)) 0 0 (va_A [(x0, .inr (1, [.ref r0, .ref r1, .ref r2, .ref r3, .int (nI rn)])), (r0, .inr (0, [.ref a0, .int (nI L.length)])), (a0, .inl (cA, (100, .inl f))), (o, .inl (cL, (1, .inr (.inl fo))))] sz) := by
  refine g_ofH (cc := cL_twist) (maxL := 5) (ret := (some .int)) (by decide) rfl (Nat.le_of_ble_eq_true rfl) (fun p e s m below meth c ls hx hb hr hml hts hown hlocks htab hP hKl hl A hA hD hS hZ => ?_)
  have hK : va_K (dC, dI) vwCl [(cA, .int)] s := hKl.sub [0] rfl
  have hl : lv_has ls 5 [(0, .ref x0), (1, .int (nI 0)), (2, .int x), (3, .ref o)] := hl
  refine lv_aload_n hx hb dL_twist_0 rfl (lv_at hl 3 rfl) ?_
  refine lv_iconst (v := 0) hx hb dL_twist_1 (by decide) ?_
  refine lv_aload_n hx hb dL_twist_2 rfl (lv_at hl 0 rfl) ?_
  refine lv_iload_n hx hb dL_twist_3 rfl (lv_at hl 1 rfl) ?_
  refine lv_iload_n hx hb dL_twist_4 rfl (lv_at hl 2 rfl) ?_
  refine g_MVi (As := [.int (nI 0), .int x]) (rest := [.int 0, .ref o]) ⟨hx, hb, hml, hown, hts⟩ (mt_X1_twist0 l dC dI cA s.heap.size x0 r0 r1 r2 r3 rn a0 L f x hR h0 h1 h2 hk) (cwV 2 hts gL_twist_X1_twist rfl rfl rfl hdX1_twist ⟨Nat.le_of_ble_eq_true rfl, Nat.le_of_ble_eq_true rfl⟩) hP hK hD hS hA [0, 1, 2] (by decide) rfl (va_recv hK hP (ci := 1) (q0 := 0) rfl rfl) rfl hl.1 rfl (Nat.le_of_ble_eq_true rfl) dL_twist_5 (Nat.zero_le _) (Nat.zero_le _) (fun u9 => [(x0, .inr (1, [.ref r0, .ref r1, .ref r2, .ref r3, .int (nI rn)])), (r0, .inr (0, [.ref a0, .int (nI ((L ++ [x]).length))])), (a0, .inl (cA, (100, .inl u9))), (o, .inl (cL, (1, .inr (.inl fo))))]) (fun _ => rfl) (fun _ => rfl) (fun u H locs hw_2 hP hD hS => ?_)
  obtain ⟨f1_1, rfl⟩ : ∃ z, z = u := ⟨_, rfl⟩
  have hw_2 : RI (L ++ [x]) f1_1 := hw_2
  have hP : va_P (dC, dI) vwCl [(x0, .inr (1, [.ref r0, .ref r1, .ref r2, .ref r3, .int (nI rn)])), (r0, .inr (0, [.ref a0, .int (nI ((L ++ [x]).length))])), (a0, .inl (cA, (100, .inl f1_1))), (o, .inl (cL, (1, .inr (.inl fo))))] H := hP
  have hD : va_D A [(x0, .inr (1, [.ref r0, .ref r1, .ref r2, .ref r3, .int (nI rn)])), (r0, .inr (0, [.ref a0, .int (nI ((L ++ [x]).length))])), (a0, .inl (cA, (100, .inl f1_1))), (o, .inl (cL, (1, .inr (.inl fo))))] := hD
  refine lv_i2l (v := (nI ((L ++ [x]).length)).toInt64) hx hb dL_twist_8 rfl ?_
  refine va_last hx hb hKl hP hD hS 3 1 rfl rfl (vp_in_nI (n := 0) (by omega) (by decide)) dL_twist_9 (fun H locs hP hD hS => ?_)
  rw [show (0 : Int32).toNatClampNeg = 0 from by decide] at hP hD
  have hP : va_P (dC, dI) vwCl [(x0, .inr (1, [.ref r0, .ref r1, .ref r2, .ref r3, .int (nI rn)])), (r0, .inr (0, [.ref a0, .int (nI ((L ++ [x]).length))])), (a0, .inl (cA, (100, .inl f1_1))), (o, .inl (cL, (1, .inr (.inl (vp_updL fo 0 ((nI ((L ++ [x]).length)).toInt64))))))] H := hP
  have hD : va_D A [(x0, .inr (1, [.ref r0, .ref r1, .ref r2, .ref r3, .int (nI rn)])), (r0, .inr (0, [.ref a0, .int (nI ((L ++ [x]).length))])), (a0, .inl (cA, (100, .inl f1_1))), (o, .inl (cL, (1, .inr (.inl (vp_updL fo 0 ((nI ((L ++ [x]).length)).toInt64))))))] := hD
  refine lv_goto (tgt := 25) hx hb dL_twist_10 (by decide) ?_
  refine lv_iconst (v := 0) hx hb dL_twist_25 (by decide) ?_
  exact g_endMi hx hb hr hlocks hP hS dL_twist_26 (f1_1) rfl rfl hw_2

abbrev mt_L_twist1_rm : Room := { frames := 3, cells := 0, slots := 0, locals := 64 }
set_option maxHeartbeats 4000000 in
set_option maxRecDepth 100000 in
theorem mt_L_twist1 (l : Launch) (htr : l.stackTraces = false) (dC : Nat → ClassId) (dI : Nat → Nat → Nat) (cA cL : ClassId) (sz : Nat) (x0 : Nat) (r0 : Nat) (r1 : Nat) (r2 : Nat) (r3 : Nat) (rn : Nat) (a1 : Nat) (L : List Int32) (f : Nat → Int32) (x : Int32) (o : Nat) (fo : Nat → Int64) (hR : RI L f) (h0 : ¬ x = 0) (h1 : ¬ x ≤ -nI rn) (h2 : x < nI rn) (hk : L.length < 30) : Met l yL_twist wsL_twist mt_L_twist1_rm (va_Pc [.ref x0, .int (nI 1), .int x, .ref o] (gBT (dC, dI) [(cA, .int), (cL, .long)] [(x0, .inr (1, [.ref r0, .ref r1, .ref r2, .ref r3, .int (nI rn)])), (r1, .inr (0, [.ref a1, .int (nI L.length)])), (a1, .inl (cA, (100, .inl f))), (o, .inl (cL, (1, .inr (.inl fo))))] sz)) (gM (dC, dI) (some (.int 0)) (fun u : (Nat → Int32) => RI (L ++ [x]) u) (fun u : (Nat → Int32) => [(x0, .inr (1, [.ref r0, .ref r1, .ref r2, .ref r3, .int (nI rn)])), (r1, .inr (0, [.ref a1, .int (nI ((L ++ [x]).length))])), (a1, .inl (cA, (100, .inl u))), (o, .inl (cL, (1, .inr (.inl (vp_updL fo 0 (nI ((L ++ [x]).length)).toInt64)))))]) (va_A [(x0, .inr (1, [.ref r0, .ref r1, .ref r2, .ref r3, .int (nI rn)])), (r1, .inr (0, [.ref a1, .int (nI L.length)])), (a1, .inl (cA, (100, .inl f))), (o, .inl (cL, (1, .inr (.inl fo))))] sz)) 0 0 (va_A [(x0, .inr (1, [.ref r0, .ref r1, .ref r2, .ref r3, .int (nI rn)])), (r1, .inr (0, [.ref a1, .int (nI L.length)])), (a1, .inl (cA, (100, .inl f))), (o, .inl (cL, (1, .inr (.inl fo))))] sz) := by
  refine g_ofH (cc := cL_twist) (maxL := 5) (ret := (some .int)) (by decide) rfl (Nat.le_of_ble_eq_true rfl) (fun p e s m below meth c ls hx hb hr hml hts hown hlocks htab hP hKl hl A hA hD hS hZ => ?_)
  have hK : va_K (dC, dI) vwCl [(cA, .int)] s := hKl.sub [0] rfl
  have hl : lv_has ls 5 [(0, .ref x0), (1, .int (nI 1)), (2, .int x), (3, .ref o)] := hl
  refine lv_aload_n hx hb dL_twist_0 rfl (lv_at hl 3 rfl) ?_
  refine lv_iconst (v := 0) hx hb dL_twist_1 (by decide) ?_
  refine lv_aload_n hx hb dL_twist_2 rfl (lv_at hl 0 rfl) ?_
  refine lv_iload_n hx hb dL_twist_3 rfl (lv_at hl 1 rfl) ?_
  refine lv_iload_n hx hb dL_twist_4 rfl (lv_at hl 2 rfl) ?_
  refine g_MVi (As := [.int (nI 1), .int x]) (rest := [.int 0, .ref o]) ⟨hx, hb, hml, hown, hts⟩ (mt_X1_twist1 l dC dI cA s.heap.size x0 r0 r1 r2 r3 rn a1 L f x hR h0 h1 h2 hk) (cwV 2 hts gL_twist_X1_twist rfl rfl rfl hdX1_twist ⟨Nat.le_of_ble_eq_true rfl, Nat.le_of_ble_eq_true rfl⟩) hP hK hD hS hA [0, 1, 2] (by decide) rfl (va_recv hK hP (ci := 1) (q0 := 0) rfl rfl) rfl hl.1 rfl (Nat.le_of_ble_eq_true rfl) dL_twist_5 (Nat.zero_le _) (Nat.zero_le _) (fun u9 => [(x0, .inr (1, [.ref r0, .ref r1, .ref r2, .ref r3, .int (nI rn)])), (r1, .inr (0, [.ref a1, .int (nI ((L ++ [x]).length))])), (a1, .inl (cA, (100, .inl u9))), (o, .inl (cL, (1, .inr (.inl fo))))]) (fun _ => rfl) (fun _ => rfl) (fun u H locs hw_2 hP hD hS => ?_)
  obtain ⟨f1_1, rfl⟩ : ∃ z, z = u := ⟨_, rfl⟩
  have hw_2 : RI (L ++ [x]) f1_1 := hw_2
  have hP : va_P (dC, dI) vwCl [(x0, .inr (1, [.ref r0, .ref r1, .ref r2, .ref r3, .int (nI rn)])), (r1, .inr (0, [.ref a1, .int (nI ((L ++ [x]).length))])), (a1, .inl (cA, (100, .inl f1_1))), (o, .inl (cL, (1, .inr (.inl fo))))] H := hP
  have hD : va_D A [(x0, .inr (1, [.ref r0, .ref r1, .ref r2, .ref r3, .int (nI rn)])), (r1, .inr (0, [.ref a1, .int (nI ((L ++ [x]).length))])), (a1, .inl (cA, (100, .inl f1_1))), (o, .inl (cL, (1, .inr (.inl fo))))] := hD
  refine lv_i2l (v := (nI ((L ++ [x]).length)).toInt64) hx hb dL_twist_8 rfl ?_
  refine va_last hx hb hKl hP hD hS 3 1 rfl rfl (vp_in_nI (n := 0) (by omega) (by decide)) dL_twist_9 (fun H locs hP hD hS => ?_)
  rw [show (0 : Int32).toNatClampNeg = 0 from by decide] at hP hD
  have hP : va_P (dC, dI) vwCl [(x0, .inr (1, [.ref r0, .ref r1, .ref r2, .ref r3, .int (nI rn)])), (r1, .inr (0, [.ref a1, .int (nI ((L ++ [x]).length))])), (a1, .inl (cA, (100, .inl f1_1))), (o, .inl (cL, (1, .inr (.inl (vp_updL fo 0 ((nI ((L ++ [x]).length)).toInt64))))))] H := hP
  have hD : va_D A [(x0, .inr (1, [.ref r0, .ref r1, .ref r2, .ref r3, .int (nI rn)])), (r1, .inr (0, [.ref a1, .int (nI ((L ++ [x]).length))])), (a1, .inl (cA, (100, .inl f1_1))), (o, .inl (cL, (1, .inr (.inl (vp_updL fo 0 ((nI ((L ++ [x]).length)).toInt64))))))] := hD
  refine lv_goto (tgt := 25) hx hb dL_twist_10 (by decide) ?_
  refine lv_iconst (v := 0) hx hb dL_twist_25 (by decide) ?_
  exact g_endMi hx hb hr hlocks hP hS dL_twist_26 (f1_1) rfl rfl hw_2

abbrev mt_L_twist_1_rm : Room := { frames := 8, cells := 1, slots := 6, locals := 133 }
set_option maxHeartbeats 4000000 in
set_option maxRecDepth 100000 in
theorem mt_L_twist_1 (l : Launch) (htr : l.stackTraces = false) (dC : Nat → ClassId) (dI : Nat → Nat → Nat) (cA cL : ClassId) (sz : Nat) (x0 : Nat) (wd : Int32) (x : Int32) (r0 : Nat) (r1 : Nat) (r2 : Nat) (r3 : Nat) (R9 : Int32) (o : Nat) (fo : Nat → Int64) (hbad : wd < 0 ∨ 1 < wd) : Met l yL_twist wsL_twist mt_L_twist_1_rm (va_Pc [.ref x0, .int wd, .int x, .ref o] (gBT (dC, dI) [(cA, .int), (cL, .long)] [(x0, .inr (1, [.ref r0, .ref r1, .ref r2, .ref r3, .int R9])), (o, .inl (cL, (1, .inr (.inl fo))))] sz)) (gM (dC, dI) (some (.int 1)) (fun u : Unit => True) (fun u : Unit => [(x0, .inr (1, [.ref r0, .ref r1, .ref r2, .ref r3, .int R9])), (o, .inl (cL, (1, .inr (.inl fo))))]) (va_A [(x0, .inr (1, [.ref r0, .ref r1, .ref r2, .ref r3, .int R9])), (o, .inl (cL, (1, .inr (.inl fo))))] sz)) 1 6 (va_A [(x0, .inr (1, [.ref r0, .ref r1, .ref r2, .ref r3, .int R9])), (o, .inl (cL, (1, .inr (.inl fo))))] sz) := by
  refine g_ofH (cc := cL_twist) (maxL := 5) (ret := (some .int)) (by decide) rfl (Nat.le_of_ble_eq_true rfl) (fun p e s m below meth c ls hx hb hr hml hts hown hlocks htab hP hKl hl A hA hD hS hZ => ?_)
  have hK : va_K (dC, dI) vwCl [(cA, .int)] s := hKl.sub [0] rfl
  have hl : lv_has ls 5 [(0, .ref x0), (1, .int wd), (2, .int x), (3, .ref o)] := hl
  refine lv_aload_n hx hb dL_twist_0 rfl (lv_at hl 3 rfl) ?_
  refine lv_iconst (v := 0) hx hb dL_twist_1 (by decide) ?_
  refine lv_aload_n hx hb dL_twist_2 rfl (lv_at hl 0 rfl) ?_
  refine lv_iload_n hx hb dL_twist_3 rfl (lv_at hl 1 rfl) ?_
  refine lv_iload_n hx hb dL_twist_4 rfl (lv_at hl 2 rfl) ?_
  refine g_HT (As := [.int wd, .int x]) (rest := [.int 0, .ref o]) (E := gIO) ⟨hx, hb, hml, hown, hts⟩ (th_X1_twist_1 l htr dC dI cA s.heap.size x0 wd x hbad) (cwV 2 hts gL_twist_X1_twist rfl rfl rfl hdX1_twist ⟨Nat.le_of_ble_eq_true rfl, Nat.le_of_ble_eq_true rfl⟩) hP hK hD hS hA hZ [] (by decide) rfl (va_recv hK hP (ci := 1) (q0 := 0) rfl rfl) rfl hl.1 rfl (Nat.le_of_ble_eq_true rfl) dL_twist_5 (Nat.le_of_ble_eq_true rfl) (Nat.le_of_ble_eq_true rfl) (own := RL) hown [] ⟨0, 10, 13, 19⟩ [⟨0, 10, 17, 13⟩, ⟨0, 10, 21, 21⟩] (by rw [htab]; rfl) (fun z hz => absurd hz List.not_mem_nil) (by decide) (by decide) (hts (.classLink RL 19 "java/lang/IndexOutOfBoundsException") (List.mem_of_getElem? (i := 1) rfl)) (List.mem_of_getElem? (i := 1) rfl) (fun q9 H locs hP hS => ?_)
  refine lv_astore (lv' := [(4, .ref q9), (0, .ref x0), (1, .int wd), (2, .int x), (3, .ref o)]) hx hb dL_twist_13 hl (by decide) rfl (fun ls hl => ?_)
  refine lv_iconst (v := 1) hx hb dL_twist_15 (by decide) ?_
  exact g_endMi hx hb hr hlocks hP hS dL_twist_16 () rfl rfl trivial

abbrev mt_L_twist_2_0_rm : Room := { frames := 8, cells := 1, slots := 6, locals := 134 }
set_option maxHeartbeats 4000000 in
set_option maxRecDepth 100000 in
theorem mt_L_twist_2_0 (l : Launch) (htr : l.stackTraces = false) (dC : Nat → ClassId) (dI : Nat → Nat → Nat) (cA cL : ClassId) (sz : Nat) (x0 : Nat) (r0 : Nat) (r1 : Nat) (r2 : Nat) (r3 : Nat) (rn : Nat) (x : Int32) (o : Nat) (fo : Nat → Int64) (hbad : x = 0 ∨ x ≤ -nI rn ∨ nI rn ≤ x) : Met l yL_twist wsL_twist mt_L_twist_2_0_rm (va_Pc [.ref x0, .int (nI 0), .int x, .ref o] (gBT (dC, dI) [(cA, .int), (cL, .long)] [(x0, .inr (1, [.ref r0, .ref r1, .ref r2, .ref r3, .int (nI rn)])), (o, .inl (cL, (1, .inr (.inl fo))))] sz)) (gM (dC, dI) (some (.int 2)) (fun u : Unit => True) (fun u : Unit => [(x0, .inr (1, [.ref r0, .ref r1, .ref r2, .ref r3, .int (nI rn)])), (o, .inl (cL, (1, .inr (.inl fo))))]) (va_A [(x0, .inr (1, [.ref r0, .ref r1, .ref r2, .ref r3, .int (nI rn)])), (o, .inl (cL, (1, .inr (.inl fo))))] sz)) 1 6 (va_A [(x0, .inr (1, [.ref r0, .ref r1, .ref r2, .ref r3, .int (nI rn)])), (o, .inl (cL, (1, .inr (.inl fo))))] sz) := by
  refine g_ofH (cc := cL_twist) (maxL := 5) (ret := (some .int)) (by decide) rfl (Nat.le_of_ble_eq_true rfl) (fun p e s m below meth c ls hx hb hr hml hts hown hlocks htab hP hKl hl A hA hD hS hZ => ?_)
  have hK : va_K (dC, dI) vwCl [(cA, .int)] s := hKl.sub [0] rfl
  have hl : lv_has ls 5 [(0, .ref x0), (1, .int (nI 0)), (2, .int x), (3, .ref o)] := hl
  refine lv_aload_n hx hb dL_twist_0 rfl (lv_at hl 3 rfl) ?_
  refine lv_iconst (v := 0) hx hb dL_twist_1 (by decide) ?_
  refine lv_aload_n hx hb dL_twist_2 rfl (lv_at hl 0 rfl) ?_
  refine lv_iload_n hx hb dL_twist_3 rfl (lv_at hl 1 rfl) ?_
  refine lv_iload_n hx hb dL_twist_4 rfl (lv_at hl 2 rfl) ?_
  refine g_HT (As := [.int (nI 0), .int x]) (rest := [.int 0, .ref o]) (E := gIA) ⟨hx, hb, hml, hown, hts⟩ (th_X1_twist_2_0 l htr dC dI cA s.heap.size x0 r0 r1 r2 r3 rn x hbad) (cwV 2 hts gL_twist_X1_twist rfl rfl rfl hdX1_twist ⟨Nat.le_of_ble_eq_true rfl, Nat.le_of_ble_eq_true rfl⟩) hP hK hD hS hA hZ [0] (by decide) rfl (va_recv hK hP (ci := 1) (q0 := 0) rfl rfl) rfl hl.1 rfl (Nat.le_of_ble_eq_true rfl) dL_twist_5 (Nat.le_of_ble_eq_true rfl) (Nat.le_of_ble_eq_true rfl) (own := RL) hown [⟨0, 10, 13, 19⟩] ⟨0, 10, 17, 13⟩ [⟨0, 10, 21, 21⟩] (by rw [htab]; rfl) (fun z hz => by obtain rfl := List.mem_singleton.mp hz; exact ⟨by decide, gIO, (hts (.classLink RL 19 "java/lang/IndexOutOfBoundsException") (List.mem_of_getElem? (i := 1) rfl)), by decide +kernel⟩) (by decide) (by decide) (hts (.classLink RL 13 "java/lang/IllegalArgumentException") (List.mem_of_getElem? (i := 2) rfl)) (List.mem_of_getElem? (i := 0) rfl) (fun q9 H locs hP hS => ?_)
  refine lv_astore (lv' := [(4, .ref q9), (0, .ref x0), (1, .int (nI 0)), (2, .int x), (3, .ref o)]) hx hb dL_twist_17 hl (by decide) rfl (fun ls hl => ?_)
  refine lv_iconst (v := 2) hx hb dL_twist_19 (by decide) ?_
  exact g_endMi hx hb hr hlocks hP hS dL_twist_20 () rfl rfl trivial

abbrev mt_L_twist_3_0_rm : Room := { frames := 8, cells := 1, slots := 6, locals := 134 }
set_option maxHeartbeats 4000000 in
set_option maxRecDepth 100000 in
theorem mt_L_twist_3_0 (l : Launch) (htr : l.stackTraces = false) (dC : Nat → ClassId) (dI : Nat → Nat → Nat) (cA cL : ClassId) (sz : Nat) (x0 : Nat) (r0 : Nat) (r1 : Nat) (r2 : Nat) (r3 : Nat) (rn : Nat) (a0 : Nat) (L : List Int32) (f : Nat → Int32) (x : Int32) (o : Nat) (fo : Nat → Int64) (hR : RI L f) (h0 : ¬ x = 0) (h1 : ¬ x ≤ -nI rn) (h2 : x < nI rn) (hk : 30 ≤ L.length) : Met l yL_twist wsL_twist mt_L_twist_3_0_rm (va_Pc [.ref x0, .int (nI 0), .int x, .ref o] (gBT (dC, dI) [(cA, .int), (cL, .long)] [(x0, .inr (1, [.ref r0, .ref r1, .ref r2, .ref r3, .int (nI rn)])), (r0, .inr (0, [.ref a0, .int (nI L.length)])), (a0, .inl (cA, (100, .inl f))), (o, .inl (cL, (1, .inr (.inl fo))))] sz)) (gM (dC, dI) (some (.int 3)) (fun u : Unit => True) (fun u : Unit => [(x0, .inr (1, [.ref r0, .ref r1, .ref r2, .ref r3, .int (nI rn)])), (r0, .inr (0, [.ref a0, .int (nI L.length)])), (a0, .inl (cA, (100, .inl f))), (o, .inl (cL, (1, .inr (.inl fo))))]) (va_A [(x0, .inr (1, [.ref r0, .ref r1, .ref r2, .ref r3, .int (nI rn)])), (r0, .inr (0, [.ref a0, .int (nI L.length)])), (a0, .inl (cA, (100, .inl f))), (o, .inl (cL, (1, .inr (.inl fo))))] sz)) 1 6 (va_A [(x0, .inr (1, [.ref r0, .ref r1, .ref r2, .ref r3, .int (nI rn)])), (r0, .inr (0, [.ref a0, .int (nI L.length)])), (a0, .inl (cA, (100, .inl f))), (o, .inl (cL, (1, .inr (.inl fo))))] sz) := by
  refine g_ofH (cc := cL_twist) (maxL := 5) (ret := (some .int)) (by decide) rfl (Nat.le_of_ble_eq_true rfl) (fun p e s m below meth c ls hx hb hr hml hts hown hlocks htab hP hKl hl A hA hD hS hZ => ?_)
  have hK : va_K (dC, dI) vwCl [(cA, .int)] s := hKl.sub [0] rfl
  have hl : lv_has ls 5 [(0, .ref x0), (1, .int (nI 0)), (2, .int x), (3, .ref o)] := hl
  refine lv_aload_n hx hb dL_twist_0 rfl (lv_at hl 3 rfl) ?_
  refine lv_iconst (v := 0) hx hb dL_twist_1 (by decide) ?_
  refine lv_aload_n hx hb dL_twist_2 rfl (lv_at hl 0 rfl) ?_
  refine lv_iload_n hx hb dL_twist_3 rfl (lv_at hl 1 rfl) ?_
  refine lv_iload_n hx hb dL_twist_4 rfl (lv_at hl 2 rfl) ?_
  refine g_HT (As := [.int (nI 0), .int x]) (rest := [.int 0, .ref o]) (E := gIS) ⟨hx, hb, hml, hown, hts⟩ (th_X1_twist_3_0 l htr dC dI cA s.heap.size x0 r0 r1 r2 r3 rn a0 L f x hR h0 h1 h2 hk) (cwV 2 hts gL_twist_X1_twist rfl rfl rfl hdX1_twist ⟨Nat.le_of_ble_eq_true rfl, Nat.le_of_ble_eq_true rfl⟩) hP hK hD hS hA hZ [0, 1, 2] (by decide) rfl (va_recv hK hP (ci := 1) (q0 := 0) rfl rfl) rfl hl.1 rfl (Nat.le_of_ble_eq_true rfl) dL_twist_5 (Nat.le_of_ble_eq_true rfl) (Nat.le_of_ble_eq_true rfl) (own := RL) hown [⟨0, 10, 13, 19⟩, ⟨0, 10, 17, 13⟩] ⟨0, 10, 21, 21⟩ [] (by rw [htab]; rfl) (fun z hz => (List.mem_cons.mp hz).elim (fun h9 => by subst h9; exact ⟨by decide, gIO, (hts (.classLink RL 19 "java/lang/IndexOutOfBoundsException") (List.mem_of_getElem? (i := 1) rfl)), by decide +kernel⟩) (fun h9 => by obtain rfl := List.mem_singleton.mp h9; exact ⟨by decide, gIA, (hts (.classLink RL 13 "java/lang/IllegalArgumentException") (List.mem_of_getElem? (i := 2) rfl)), by decide +kernel⟩)) (by decide) (by decide) (hts (.classLink RL 21 "java/lang/IllegalStateException") (List.mem_of_getElem? (i := 3) rfl)) (List.mem_of_getElem? (i := 2) rfl) (fun q9 H locs hP hS => ?_)
  refine lv_astore (lv' := [(4, .ref q9), (0, .ref x0), (1, .int (nI 0)), (2, .int x), (3, .ref o)]) hx hb dL_twist_21 hl (by decide) rfl (fun ls hl => ?_)
  refine lv_iconst (v := 3) hx hb dL_twist_23 (by decide) ?_
  exact g_endMi hx hb hr hlocks hP hS dL_twist_24 () rfl rfl trivial

abbrev mt_L_twist_2_1_rm : Room := { frames := 8, cells := 1, slots := 6, locals := 134 }
set_option maxHeartbeats 4000000 in
set_option maxRecDepth 100000 in
theorem mt_L_twist_2_1 (l : Launch) (htr : l.stackTraces = false) (dC : Nat → ClassId) (dI : Nat → Nat → Nat) (cA cL : ClassId) (sz : Nat) (x0 : Nat) (r0 : Nat) (r1 : Nat) (r2 : Nat) (r3 : Nat) (rn : Nat) (x : Int32) (o : Nat) (fo : Nat → Int64) (hbad : x = 0 ∨ x ≤ -nI rn ∨ nI rn ≤ x) : Met l yL_twist wsL_twist mt_L_twist_2_1_rm (va_Pc [.ref x0, .int (nI 1), .int x, .ref o] (gBT (dC, dI) [(cA, .int), (cL, .long)] [(x0, .inr (1, [.ref r0, .ref r1, .ref r2, .ref r3, .int (nI rn)])), (o, .inl (cL, (1, .inr (.inl fo))))] sz)) (gM (dC, dI) (some (.int 2)) (fun u : Unit => True) (fun u : Unit => [(x0, .inr (1, [.ref r0, .ref r1, .ref r2, .ref r3, .int (nI rn)])), (o, .inl (cL, (1, .inr (.inl fo))))]) (va_A [(x0, .inr (1, [.ref r0, .ref r1, .ref r2, .ref r3, .int (nI rn)])), (o, .inl (cL, (1, .inr (.inl fo))))] sz)) 1 6 (va_A [(x0, .inr (1, [.ref r0, .ref r1, .ref r2, .ref r3, .int (nI rn)])), (o, .inl (cL, (1, .inr (.inl fo))))] sz) := by
  refine g_ofH (cc := cL_twist) (maxL := 5) (ret := (some .int)) (by decide) rfl (Nat.le_of_ble_eq_true rfl) (fun p e s m below meth c ls hx hb hr hml hts hown hlocks htab hP hKl hl A hA hD hS hZ => ?_)
  have hK : va_K (dC, dI) vwCl [(cA, .int)] s := hKl.sub [0] rfl
  have hl : lv_has ls 5 [(0, .ref x0), (1, .int (nI 1)), (2, .int x), (3, .ref o)] := hl
  refine lv_aload_n hx hb dL_twist_0 rfl (lv_at hl 3 rfl) ?_
  refine lv_iconst (v := 0) hx hb dL_twist_1 (by decide) ?_
  refine lv_aload_n hx hb dL_twist_2 rfl (lv_at hl 0 rfl) ?_
  refine lv_iload_n hx hb dL_twist_3 rfl (lv_at hl 1 rfl) ?_
  refine lv_iload_n hx hb dL_twist_4 rfl (lv_at hl 2 rfl) ?_
  refine g_HT (As := [.int (nI 1), .int x]) (rest := [.int 0, .ref o]) (E := gIA) ⟨hx, hb, hml, hown, hts⟩ (th_X1_twist_2_1 l htr dC dI cA s.heap.size x0 r0 r1 r2 r3 rn x hbad) (cwV 2 hts gL_twist_X1_twist rfl rfl rfl hdX1_twist ⟨Nat.le_of_ble_eq_true rfl, Nat.le_of_ble_eq_true rfl⟩) hP hK hD hS hA hZ [0] (by decide) rfl (va_recv hK hP (ci := 1) (q0 := 0) rfl rfl) rfl hl.1 rfl (Nat.le_of_ble_eq_true rfl) dL_twist_5 (Nat.le_of_ble_eq_true rfl) (Nat.le_of_ble_eq_true rfl) (own := RL) hown [⟨0, 10, 13, 19⟩] ⟨0, 10, 17, 13⟩ [⟨0, 10, 21, 21⟩] (by rw [htab]; rfl) (fun z hz => by obtain rfl := List.mem_singleton.mp hz; exact ⟨by decide, gIO, (hts (.classLink RL 19 "java/lang/IndexOutOfBoundsException") (List.mem_of_getElem? (i := 1) rfl)), by decide +kernel⟩) (by decide) (by decide) (hts (.classLink RL 13 "java/lang/IllegalArgumentException") (List.mem_of_getElem? (i := 2) rfl)) (List.mem_of_getElem? (i := 0) rfl) (fun q9 H locs hP hS => ?_)
  refine lv_astore (lv' := [(4, .ref q9), (0, .ref x0), (1, .int (nI 1)), (2, .int x), (3, .ref o)]) hx hb dL_twist_17 hl (by decide) rfl (fun ls hl => ?_)
  refine lv_iconst (v := 2) hx hb dL_twist_19 (by decide) ?_
  exact g_endMi hx hb hr hlocks hP hS dL_twist_20 () rfl rfl trivial

abbrev mt_L_twist_3_1_rm : Room := { frames := 8, cells := 1, slots := 6, locals := 134 }
set_option maxHeartbeats 4000000 in
set_option maxRecDepth 100000 in
theorem mt_L_twist_3_1 (l : Launch) (htr : l.stackTraces = false) (dC : Nat → ClassId) (dI : Nat → Nat → Nat) (cA cL : ClassId) (sz : Nat) (x0 : Nat) (r0 : Nat) (r1 : Nat) (r2 : Nat) (r3 : Nat) (rn : Nat) (a1 : Nat) (L : List Int32) (f : Nat → Int32) (x : Int32) (o : Nat) (fo : Nat → Int64) (hR : RI L f) (h0 : ¬ x = 0) (h1 : ¬ x ≤ -nI rn) (h2 : x < nI rn) (hk : 30 ≤ L.length) : Met l yL_twist wsL_twist mt_L_twist_3_1_rm (va_Pc [.ref x0, .int (nI 1), .int x, .ref o] (gBT (dC, dI) [(cA, .int), (cL, .long)] [(x0, .inr (1, [.ref r0, .ref r1, .ref r2, .ref r3, .int (nI rn)])), (r1, .inr (0, [.ref a1, .int (nI L.length)])), (a1, .inl (cA, (100, .inl f))), (o, .inl (cL, (1, .inr (.inl fo))))] sz)) (gM (dC, dI) (some (.int 3)) (fun u : Unit => True) (fun u : Unit => [(x0, .inr (1, [.ref r0, .ref r1, .ref r2, .ref r3, .int (nI rn)])), (r1, .inr (0, [.ref a1, .int (nI L.length)])), (a1, .inl (cA, (100, .inl f))), (o, .inl (cL, (1, .inr (.inl fo))))]) (va_A [(x0, .inr (1, [.ref r0, .ref r1, .ref r2, .ref r3, .int (nI rn)])), (r1, .inr (0, [.ref a1, .int (nI L.length)])), (a1, .inl (cA, (100, .inl f))), (o, .inl (cL, (1, .inr (.inl fo))))] sz)) 1 6 (va_A [(x0, .inr (1, [.ref r0, .ref r1, .ref r2, .ref r3, .int (nI rn)])), (r1, .inr (0, [.ref a1, .int (nI L.length)])), (a1, .inl (cA, (100, .inl f))), (o, .inl (cL, (1, .inr (.inl fo))))] sz) := by
  refine g_ofH (cc := cL_twist) (maxL := 5) (ret := (some .int)) (by decide) rfl (Nat.le_of_ble_eq_true rfl) (fun p e s m below meth c ls hx hb hr hml hts hown hlocks htab hP hKl hl A hA hD hS hZ => ?_)
  have hK : va_K (dC, dI) vwCl [(cA, .int)] s := hKl.sub [0] rfl
  have hl : lv_has ls 5 [(0, .ref x0), (1, .int (nI 1)), (2, .int x), (3, .ref o)] := hl
  refine lv_aload_n hx hb dL_twist_0 rfl (lv_at hl 3 rfl) ?_
  refine lv_iconst (v := 0) hx hb dL_twist_1 (by decide) ?_
  refine lv_aload_n hx hb dL_twist_2 rfl (lv_at hl 0 rfl) ?_
  refine lv_iload_n hx hb dL_twist_3 rfl (lv_at hl 1 rfl) ?_
  refine lv_iload_n hx hb dL_twist_4 rfl (lv_at hl 2 rfl) ?_
  refine g_HT (As := [.int (nI 1), .int x]) (rest := [.int 0, .ref o]) (E := gIS) ⟨hx, hb, hml, hown, hts⟩ (th_X1_twist_3_1 l htr dC dI cA s.heap.size x0 r0 r1 r2 r3 rn a1 L f x hR h0 h1 h2 hk) (cwV 2 hts gL_twist_X1_twist rfl rfl rfl hdX1_twist ⟨Nat.le_of_ble_eq_true rfl, Nat.le_of_ble_eq_true rfl⟩) hP hK hD hS hA hZ [0, 1, 2] (by decide) rfl (va_recv hK hP (ci := 1) (q0 := 0) rfl rfl) rfl hl.1 rfl (Nat.le_of_ble_eq_true rfl) dL_twist_5 (Nat.le_of_ble_eq_true rfl) (Nat.le_of_ble_eq_true rfl) (own := RL) hown [⟨0, 10, 13, 19⟩, ⟨0, 10, 17, 13⟩] ⟨0, 10, 21, 21⟩ [] (by rw [htab]; rfl) (fun z hz => (List.mem_cons.mp hz).elim (fun h9 => by subst h9; exact ⟨by decide, gIO, (hts (.classLink RL 19 "java/lang/IndexOutOfBoundsException") (List.mem_of_getElem? (i := 1) rfl)), by decide +kernel⟩) (fun h9 => by obtain rfl := List.mem_singleton.mp h9; exact ⟨by decide, gIA, (hts (.classLink RL 13 "java/lang/IllegalArgumentException") (List.mem_of_getElem? (i := 2) rfl)), by decide +kernel⟩)) (by decide) (by decide) (hts (.classLink RL 21 "java/lang/IllegalStateException") (List.mem_of_getElem? (i := 3) rfl)) (List.mem_of_getElem? (i := 2) rfl) (fun q9 H locs hP hS => ?_)
  refine lv_astore (lv' := [(4, .ref q9), (0, .ref x0), (1, .int (nI 1)), (2, .int x), (3, .ref o)]) hx hb dL_twist_21 hl (by decide) rfl (fun ls hl => ?_)
  refine lv_iconst (v := 3) hx hb dL_twist_23 (by decide) ?_
  exact g_endMi hx hb hr hlocks hP hS dL_twist_24 () rfl rfl trivial

abbrev mt_L_untwist0_rm : Room := { frames := 2, cells := 0, slots := 0, locals := 44 }
set_option maxHeartbeats 4000000 in
set_option maxRecDepth 100000 in
theorem mt_L_untwist0 (l : Launch) (htr : l.stackTraces = false) (dC : Nat → ClassId) (dI : Nat → Nat → Nat) (cA cL : ClassId) (sz : Nat) (x0 : Nat) (r0 : Nat) (r1 : Nat) (r2 : Nat) (r3 : Nat) (rn : Nat) (a0 : Nat) (L : List Int32) (f : Nat → Int32) (o : Nat) (fo : Nat → Int64) (hR : RI L f) (hk : 0 < L.length) : Met l yL_untwist wsL_untwist mt_L_untwist0_rm (va_Pc [.ref x0, .int (nI 0), .ref o] (gBT (dC, dI) [(cA, .int), (cL, .long)] [(x0, .inr (1, [.ref r0, .ref r1, .ref r2, .ref r3, .int (nI rn)])), (r0, .inr (0, [.ref a0, .int (nI L.length)])), (a0, .inl (cA, (100, .inl f))), (o, .inl (cL, (1, .inr (.inl fo))))] sz)) (gM (dC, dI) (some (.int 0)) (fun u : Unit => True) (fun u : Unit => [(x0, .inr (1, [.ref r0, .ref r1, .ref r2, .ref r3, .int (nI rn)])), (r0, .inr (0, [.ref a0, .int (nI L.dropLast.length)])), (a0, .inl (cA, (100, .inl f))), (o, .inl (cL, (1, .inr (.inl (vp_updL fo 0 (atL L (L.length - 1)).toInt64)))))]) (va_A [(x0, .inr (1, [.ref r0, .ref r1, .ref r2, .ref r3, .int (nI rn)])), (r0, .inr (0, [.ref a0, .int (nI L.length)])), (a0, .inl (cA, (100, .inl f))), (o, .inl (cL, (1, .inr (.inl fo))))] sz)) 0 0 (va_A [(x0, .inr (1, [.ref r0, .ref r1, .ref r2, .ref r3, .int (nI rn)])), (r0, .inr (0, [.ref a0, .int (nI L.length)])), (a0, .inl (cA, (100, .inl f))), (o, .inl (cL, (1, .inr (.inl fo))))] sz) := by
  refine g_ofH (cc := cL_untwist) (maxL := 4) (ret := (some .int)) (by decide) rfl (Nat.le_of_ble_eq_true rfl) (fun p e s m below meth c ls hx hb hr hml hts hown hlocks htab hP hKl hl A hA hD hS hZ => ?_)
  have hK : va_K (dC, dI) vwCl [(cA, .int)] s := hKl.sub [0] rfl
  have hl : lv_has ls 4 [(0, .ref x0), (1, .int (nI 0)), (2, .ref o)] := hl
  refine lv_aload_n hx hb dL_untwist_0 rfl (lv_at hl 2 rfl) ?_
  refine lv_iconst (v := 0) hx hb dL_untwist_1 (by decide) ?_
  refine lv_aload_n hx hb dL_untwist_2 rfl (lv_at hl 0 rfl) ?_
  refine lv_iload_n hx hb dL_untwist_3 rfl (lv_at hl 1 rfl) ?_
  refine g_MVi (As := [.int (nI 0)]) (rest := [.int 0, .ref o]) ⟨hx, hb, hml, hown, hts⟩ (mt_X1_untwist0 l dC dI cA s.heap.size x0 r0 r1 r2 r3 rn a0 L f hR hk) (cwV 1 hts gL_untwist_X1_untwist rfl rfl rfl hdX1_untwist ⟨Nat.le_of_ble_eq_true rfl, Nat.le_of_ble_eq_true rfl⟩) hP hK hD hS hA [0, 1, 2] (by decide) rfl (va_recv hK hP (ci := 1) (q0 := 0) rfl rfl) rfl hl.1 rfl (Nat.le_of_ble_eq_true rfl) dL_untwist_4 (Nat.zero_le _) (Nat.zero_le _) (fun u9 => [(x0, .inr (1, [.ref r0, .ref r1, .ref r2, .ref r3, .int (nI rn)])), (r0, .inr (0, [.ref a0, .int (nI L.dropLast.length)])), (a0, .inl (cA, (100, .inl f))), (o, .inl (cL, (1, .inr (.inl fo))))]) (fun _ => rfl) (fun _ => rfl) (fun u H locs hw_1 hP hD hS => ?_)
  have hw_1 : True := hw_1
  have hP : va_P (dC, dI) vwCl [(x0, .inr (1, [.ref r0, .ref r1, .ref r2, .ref r3, .int (nI rn)])), (r0, .inr (0, [.ref a0, .int (nI L.dropLast.length)])), (a0, .inl (cA, (100, .inl f))), (o, .inl (cL, (1, .inr (.inl fo))))] H := hP
  have hD : va_D A [(x0, .inr (1, [.ref r0, .ref r1, .ref r2, .ref r3, .int (nI rn)])), (r0, .inr (0, [.ref a0, .int (nI L.dropLast.length)])), (a0, .inl (cA, (100, .inl f))), (o, .inl (cL, (1, .inr (.inl fo))))] := hD
  refine lv_i2l (v := (atL L (L.length - 1)).toInt64) hx hb dL_untwist_7 rfl ?_
  refine va_last hx hb hKl hP hD hS 3 1 rfl rfl (vp_in_nI (n := 0) (by omega) (by decide)) dL_untwist_8 (fun H locs hP hD hS => ?_)
  rw [show (0 : Int32).toNatClampNeg = 0 from by decide] at hP hD
  have hP : va_P (dC, dI) vwCl [(x0, .inr (1, [.ref r0, .ref r1, .ref r2, .ref r3, .int (nI rn)])), (r0, .inr (0, [.ref a0, .int (nI L.dropLast.length)])), (a0, .inl (cA, (100, .inl f))), (o, .inl (cL, (1, .inr (.inl (vp_updL fo 0 ((atL L (L.length - 1)).toInt64))))))] H := hP
  have hD : va_D A [(x0, .inr (1, [.ref r0, .ref r1, .ref r2, .ref r3, .int (nI rn)])), (r0, .inr (0, [.ref a0, .int (nI L.dropLast.length)])), (a0, .inl (cA, (100, .inl f))), (o, .inl (cL, (1, .inr (.inl (vp_updL fo 0 ((atL L (L.length - 1)).toInt64))))))] := hD
  refine lv_goto (tgt := 18) hx hb dL_untwist_9 (by decide) ?_
  refine lv_iconst (v := 0) hx hb dL_untwist_18 (by decide) ?_
  exact g_endMi hx hb hr hlocks hP hS dL_untwist_19 () rfl rfl trivial

abbrev mt_L_untwist1_rm : Room := { frames := 2, cells := 0, slots := 0, locals := 44 }
set_option maxHeartbeats 4000000 in
set_option maxRecDepth 100000 in
theorem mt_L_untwist1 (l : Launch) (htr : l.stackTraces = false) (dC : Nat → ClassId) (dI : Nat → Nat → Nat) (cA cL : ClassId) (sz : Nat) (x0 : Nat) (r0 : Nat) (r1 : Nat) (r2 : Nat) (r3 : Nat) (rn : Nat) (a1 : Nat) (L : List Int32) (f : Nat → Int32) (o : Nat) (fo : Nat → Int64) (hR : RI L f) (hk : 0 < L.length) : Met l yL_untwist wsL_untwist mt_L_untwist1_rm (va_Pc [.ref x0, .int (nI 1), .ref o] (gBT (dC, dI) [(cA, .int), (cL, .long)] [(x0, .inr (1, [.ref r0, .ref r1, .ref r2, .ref r3, .int (nI rn)])), (r1, .inr (0, [.ref a1, .int (nI L.length)])), (a1, .inl (cA, (100, .inl f))), (o, .inl (cL, (1, .inr (.inl fo))))] sz)) (gM (dC, dI) (some (.int 0)) (fun u : Unit => True) (fun u : Unit => [(x0, .inr (1, [.ref r0, .ref r1, .ref r2, .ref r3, .int (nI rn)])), (r1, .inr (0, [.ref a1, .int (nI L.dropLast.length)])), (a1, .inl (cA, (100, .inl f))), (o, .inl (cL, (1, .inr (.inl (vp_updL fo 0 (atL L (L.length - 1)).toInt64)))))]) (va_A [(x0, .inr (1, [.ref r0, .ref r1, .ref r2, .ref r3, .int (nI rn)])), (r1, .inr (0, [.ref a1, .int (nI L.length)])), (a1, .inl (cA, (100, .inl f))), (o, .inl (cL, (1, .inr (.inl fo))))] sz)) 0 0 (va_A [(x0, .inr (1, [.ref r0, .ref r1, .ref r2, .ref r3, .int (nI rn)])), (r1, .inr (0, [.ref a1, .int (nI L.length)])), (a1, .inl (cA, (100, .inl f))), (o, .inl (cL, (1, .inr (.inl fo))))] sz) := by
  refine g_ofH (cc := cL_untwist) (maxL := 4) (ret := (some .int)) (by decide) rfl (Nat.le_of_ble_eq_true rfl) (fun p e s m below meth c ls hx hb hr hml hts hown hlocks htab hP hKl hl A hA hD hS hZ => ?_)
  have hK : va_K (dC, dI) vwCl [(cA, .int)] s := hKl.sub [0] rfl
  have hl : lv_has ls 4 [(0, .ref x0), (1, .int (nI 1)), (2, .ref o)] := hl
  refine lv_aload_n hx hb dL_untwist_0 rfl (lv_at hl 2 rfl) ?_
  refine lv_iconst (v := 0) hx hb dL_untwist_1 (by decide) ?_
  refine lv_aload_n hx hb dL_untwist_2 rfl (lv_at hl 0 rfl) ?_
  refine lv_iload_n hx hb dL_untwist_3 rfl (lv_at hl 1 rfl) ?_
  refine g_MVi (As := [.int (nI 1)]) (rest := [.int 0, .ref o]) ⟨hx, hb, hml, hown, hts⟩ (mt_X1_untwist1 l dC dI cA s.heap.size x0 r0 r1 r2 r3 rn a1 L f hR hk) (cwV 1 hts gL_untwist_X1_untwist rfl rfl rfl hdX1_untwist ⟨Nat.le_of_ble_eq_true rfl, Nat.le_of_ble_eq_true rfl⟩) hP hK hD hS hA [0, 1, 2] (by decide) rfl (va_recv hK hP (ci := 1) (q0 := 0) rfl rfl) rfl hl.1 rfl (Nat.le_of_ble_eq_true rfl) dL_untwist_4 (Nat.zero_le _) (Nat.zero_le _) (fun u9 => [(x0, .inr (1, [.ref r0, .ref r1, .ref r2, .ref r3, .int (nI rn)])), (r1, .inr (0, [.ref a1, .int (nI L.dropLast.length)])), (a1, .inl (cA, (100, .inl f))), (o, .inl (cL, (1, .inr (.inl fo))))]) (fun _ => rfl) (fun _ => rfl) (fun u H locs hw_1 hP hD hS => ?_)
  have hw_1 : True := hw_1
  have hP : va_P (dC, dI) vwCl [(x0, .inr (1, [.ref r0, .ref r1, .ref r2, .ref r3, .int (nI rn)])), (r1, .inr (0, [.ref a1, .int (nI L.dropLast.length)])), (a1, .inl (cA, (100, .inl f))), (o, .inl (cL, (1, .inr (.inl fo))))] H := hP
  have hD : va_D A [(x0, .inr (1, [.ref r0, .ref r1, .ref r2, .ref r3, .int (nI rn)])), (r1, .inr (0, [.ref a1, .int (nI L.dropLast.length)])), (a1, .inl (cA, (100, .inl f))), (o, .inl (cL, (1, .inr (.inl fo))))] := hD
  refine lv_i2l (v := (atL L (L.length - 1)).toInt64) hx hb dL_untwist_7 rfl ?_
  refine va_last hx hb hKl hP hD hS 3 1 rfl rfl (vp_in_nI (n := 0) (by omega) (by decide)) dL_untwist_8 (fun H locs hP hD hS => ?_)
  rw [show (0 : Int32).toNatClampNeg = 0 from by decide] at hP hD
  have hP : va_P (dC, dI) vwCl [(x0, .inr (1, [.ref r0, .ref r1, .ref r2, .ref r3, .int (nI rn)])), (r1, .inr (0, [.ref a1, .int (nI L.dropLast.length)])), (a1, .inl (cA, (100, .inl f))), (o, .inl (cL, (1, .inr (.inl (vp_updL fo 0 ((atL L (L.length - 1)).toInt64))))))] H := hP
  have hD : va_D A [(x0, .inr (1, [.ref r0, .ref r1, .ref r2, .ref r3, .int (nI rn)])), (r1, .inr (0, [.ref a1, .int (nI L.dropLast.length)])), (a1, .inl (cA, (100, .inl f))), (o, .inl (cL, (1, .inr (.inl (vp_updL fo 0 ((atL L (L.length - 1)).toInt64))))))] := hD
  refine lv_goto (tgt := 18) hx hb dL_untwist_9 (by decide) ?_
  refine lv_iconst (v := 0) hx hb dL_untwist_18 (by decide) ?_
  exact g_endMi hx hb hr hlocks hP hS dL_untwist_19 () rfl rfl trivial

abbrev mt_L_untwist_1_rm : Room := { frames := 8, cells := 1, slots := 6, locals := 133 }
set_option maxHeartbeats 4000000 in
set_option maxRecDepth 100000 in
theorem mt_L_untwist_1 (l : Launch) (htr : l.stackTraces = false) (dC : Nat → ClassId) (dI : Nat → Nat → Nat) (cA cL : ClassId) (sz : Nat) (x0 : Nat) (wd : Int32) (r0 : Nat) (r1 : Nat) (r2 : Nat) (r3 : Nat) (R9 : Int32) (o : Nat) (fo : Nat → Int64) (hbad : wd < 0 ∨ 1 < wd) : Met l yL_untwist wsL_untwist mt_L_untwist_1_rm (va_Pc [.ref x0, .int wd, .ref o] (gBT (dC, dI) [(cA, .int), (cL, .long)] [(x0, .inr (1, [.ref r0, .ref r1, .ref r2, .ref r3, .int R9])), (o, .inl (cL, (1, .inr (.inl fo))))] sz)) (gM (dC, dI) (some (.int 1)) (fun u : Unit => True) (fun u : Unit => [(x0, .inr (1, [.ref r0, .ref r1, .ref r2, .ref r3, .int R9])), (o, .inl (cL, (1, .inr (.inl fo))))]) (va_A [(x0, .inr (1, [.ref r0, .ref r1, .ref r2, .ref r3, .int R9])), (o, .inl (cL, (1, .inr (.inl fo))))] sz)) 1 6 (va_A [(x0, .inr (1, [.ref r0, .ref r1, .ref r2, .ref r3, .int R9])), (o, .inl (cL, (1, .inr (.inl fo))))] sz) := by
  refine g_ofH (cc := cL_untwist) (maxL := 4) (ret := (some .int)) (by decide) rfl (Nat.le_of_ble_eq_true rfl) (fun p e s m below meth c ls hx hb hr hml hts hown hlocks htab hP hKl hl A hA hD hS hZ => ?_)
  have hK : va_K (dC, dI) vwCl [(cA, .int)] s := hKl.sub [0] rfl
  have hl : lv_has ls 4 [(0, .ref x0), (1, .int wd), (2, .ref o)] := hl
  refine lv_aload_n hx hb dL_untwist_0 rfl (lv_at hl 2 rfl) ?_
  refine lv_iconst (v := 0) hx hb dL_untwist_1 (by decide) ?_
  refine lv_aload_n hx hb dL_untwist_2 rfl (lv_at hl 0 rfl) ?_
  refine lv_iload_n hx hb dL_untwist_3 rfl (lv_at hl 1 rfl) ?_
  refine g_HT (As := [.int wd]) (rest := [.int 0, .ref o]) (E := gIO) ⟨hx, hb, hml, hown, hts⟩ (th_X1_untwist_1 l htr dC dI cA s.heap.size x0 wd hbad) (cwV 1 hts gL_untwist_X1_untwist rfl rfl rfl hdX1_untwist ⟨Nat.le_of_ble_eq_true rfl, Nat.le_of_ble_eq_true rfl⟩) hP hK hD hS hA hZ [] (by decide) rfl (va_recv hK hP (ci := 1) (q0 := 0) rfl rfl) rfl hl.1 rfl (Nat.le_of_ble_eq_true rfl) dL_untwist_4 (Nat.le_of_ble_eq_true rfl) (Nat.le_of_ble_eq_true rfl) (own := RL) hown [] ⟨0, 9, 12, 19⟩ [⟨0, 9, 15, 21⟩] (by rw [htab]; rfl) (fun z hz => absurd hz List.not_mem_nil) (by decide) (by decide) (hts (.classLink RL 19 "java/lang/IndexOutOfBoundsException") (List.mem_of_getElem? (i := 1) rfl)) (List.mem_of_getElem? (i := 1) rfl) (fun q9 H locs hP hS => ?_)
  refine lv_astore_n (lv' := [(3, .ref q9), (0, .ref x0), (1, .int wd), (2, .ref o)]) hx hb dL_untwist_12 rfl hl (by decide) rfl (fun ls hl => ?_)
  refine lv_iconst (v := 1) hx hb dL_untwist_13 (by decide) ?_
  exact g_endMi hx hb hr hlocks hP hS dL_untwist_14 () rfl rfl trivial

abbrev mt_L_untwist_2_0_rm : Room := { frames := 7, cells := 1, slots := 6, locals := 113 }
set_option maxHeartbeats 4000000 in
set_option maxRecDepth 100000 in
theorem mt_L_untwist_2_0 (l : Launch) (htr : l.stackTraces = false) (dC : Nat → ClassId) (dI : Nat → Nat → Nat) (cA cL : ClassId) (sz : Nat) (x0 : Nat) (r0 : Nat) (r1 : Nat) (r2 : Nat) (r3 : Nat) (rn : Nat) (a0 : Nat) (L : List Int32) (f : Nat → Int32) (o : Nat) (fo : Nat → Int64) (hR : RI L f) (hk : L.length = 0) : Met l yL_untwist wsL_untwist mt_L_untwist_2_0_rm (va_Pc [.ref x0, .int (nI 0), .ref o] (gBT (dC, dI) [(cA, .int), (cL, .long)] [(x0, .inr (1, [.ref r0, .ref r1, .ref r2, .ref r3, .int (nI rn)])), (r0, .inr (0, [.ref a0, .int (nI L.length)])), (a0, .inl (cA, (100, .inl f))), (o, .inl (cL, (1, .inr (.inl fo))))] sz)) (gM (dC, dI) (some (.int 2)) (fun u : Unit => True) (fun u : Unit => [(x0, .inr (1, [.ref r0, .ref r1, .ref r2, .ref r3, .int (nI rn)])), (r0, .inr (0, [.ref a0, .int (nI L.length)])), (a0, .inl (cA, (100, .inl f))), (o, .inl (cL, (1, .inr (.inl fo))))]) (va_A [(x0, .inr (1, [.ref r0, .ref r1, .ref r2, .ref r3, .int (nI rn)])), (r0, .inr (0, [.ref a0, .int (nI L.length)])), (a0, .inl (cA, (100, .inl f))), (o, .inl (cL, (1, .inr (.inl fo))))] sz)) 1 6 (va_A [(x0, .inr (1, [.ref r0, .ref r1, .ref r2, .ref r3, .int (nI rn)])), (r0, .inr (0, [.ref a0, .int (nI L.length)])), (a0, .inl (cA, (100, .inl f))), (o, .inl (cL, (1, .inr (.inl fo))))] sz) := by
  refine g_ofH (cc := cL_untwist) (maxL := 4) (ret := (some .int)) (by decide) rfl (Nat.le_of_ble_eq_true rfl) (fun p e s m below meth c ls hx hb hr hml hts hown hlocks htab hP hKl hl A hA hD hS hZ => ?_)
  have hK : va_K (dC, dI) vwCl [(cA, .int)] s := hKl.sub [0] rfl
  have hl : lv_has ls 4 [(0, .ref x0), (1, .int (nI 0)), (2, .ref o)] := hl
  refine lv_aload_n hx hb dL_untwist_0 rfl (lv_at hl 2 rfl) ?_
  refine lv_iconst (v := 0) hx hb dL_untwist_1 (by decide) ?_
  refine lv_aload_n hx hb dL_untwist_2 rfl (lv_at hl 0 rfl) ?_
  refine lv_iload_n hx hb dL_untwist_3 rfl (lv_at hl 1 rfl) ?_
  refine g_HT (As := [.int (nI 0)]) (rest := [.int 0, .ref o]) (E := gIS) ⟨hx, hb, hml, hown, hts⟩ (th_X1_untwist_2_0 l htr dC dI cA s.heap.size x0 r0 r1 r2 r3 rn a0 L f hR hk) (cwV 1 hts gL_untwist_X1_untwist rfl rfl rfl hdX1_untwist ⟨Nat.le_of_ble_eq_true rfl, Nat.le_of_ble_eq_true rfl⟩) hP hK hD hS hA hZ [0, 1, 2] (by decide) rfl (va_recv hK hP (ci := 1) (q0 := 0) rfl rfl) rfl hl.1 rfl (Nat.le_of_ble_eq_true rfl) dL_untwist_4 (Nat.le_of_ble_eq_true rfl) (Nat.le_of_ble_eq_true rfl) (own := RL) hown [⟨0, 9, 12, 19⟩] ⟨0, 9, 15, 21⟩ [] (by rw [htab]; rfl) (fun z hz => by obtain rfl := List.mem_singleton.mp hz; exact ⟨by decide, gIO, (hts (.classLink RL 19 "java/lang/IndexOutOfBoundsException") (List.mem_of_getElem? (i := 1) rfl)), by decide +kernel⟩) (by decide) (by decide) (hts (.classLink RL 21 "java/lang/IllegalStateException") (List.mem_of_getElem? (i := 2) rfl)) (List.mem_of_getElem? (i := 2) rfl) (fun q9 H locs hP hS => ?_)
  refine lv_astore_n (lv' := [(3, .ref q9), (0, .ref x0), (1, .int (nI 0)), (2, .ref o)]) hx hb dL_untwist_15 rfl hl (by decide) rfl (fun ls hl => ?_)
  refine lv_iconst (v := 2) hx hb dL_untwist_16 (by decide) ?_
  exact g_endMi hx hb hr hlocks hP hS dL_untwist_17 () rfl rfl trivial

abbrev mt_L_untwist_2_1_rm : Room := { frames := 7, cells := 1, slots := 6, locals := 113 }
set_option maxHeartbeats 4000000 in
set_option maxRecDepth 100000 in
theorem mt_L_untwist_2_1 (l : Launch) (htr : l.stackTraces = false) (dC : Nat → ClassId) (dI : Nat → Nat → Nat) (cA cL : ClassId) (sz : Nat) (x0 : Nat) (r0 : Nat) (r1 : Nat) (r2 : Nat) (r3 : Nat) (rn : Nat) (a1 : Nat) (L : List Int32) (f : Nat → Int32) (o : Nat) (fo : Nat → Int64) (hR : RI L f) (hk : L.length = 0) : Met l yL_untwist wsL_untwist mt_L_untwist_2_1_rm (va_Pc [.ref x0, .int (nI 1), .ref o] (gBT (dC, dI) [(cA, .int), (cL, .long)] [(x0, .inr (1, [.ref r0, .ref r1, .ref r2, .ref r3, .int (nI rn)])), (r1, .inr (0, [.ref a1, .int (nI L.length)])), (a1, .inl (cA, (100, .inl f))), (o, .inl (cL, (1, .inr (.inl fo))))] sz)) (gM (dC, dI) (some (.int 2)) (fun u : Unit => True) (fun u : Unit => [(x0, .inr (1, [.ref r0, .ref r1, .ref r2, .ref r3, .int (nI rn)])), (r1, .inr (0, [.ref a1, .int (nI L.length)])), (a1, .inl (cA, (100, .inl f))), (o, .inl (cL, (1, .inr (.inl fo))))]) (va_A [(x0, .inr (1, [.ref r0, .ref r1, .ref r2, .ref r3, .int (nI rn)])), (r1, .inr (0, [.ref a1, .int (nI L.length)])), (a1, .inl (cA, (100, .inl f))), (o, .inl (cL, (1, .inr (.inl fo))))] sz)) 1 6 (va_A [(x0, .inr (1, [.ref r0, .ref r1, .ref r2, .ref r3, .int (nI rn)])), (r1, .inr (0, [.ref a1, .int (nI L.length)])), (a1, .inl (cA, (100, .inl f))), (o, .inl (cL, (1, .inr (.inl fo))))] sz) := by
  refine g_ofH (cc := cL_untwist) (maxL := 4) (ret := (some .int)) (by decide) rfl (Nat.le_of_ble_eq_true rfl) (fun p e s m below meth c ls hx hb hr hml hts hown hlocks htab hP hKl hl A hA hD hS hZ => ?_)
  have hK : va_K (dC, dI) vwCl [(cA, .int)] s := hKl.sub [0] rfl
  have hl : lv_has ls 4 [(0, .ref x0), (1, .int (nI 1)), (2, .ref o)] := hl
  refine lv_aload_n hx hb dL_untwist_0 rfl (lv_at hl 2 rfl) ?_
  refine lv_iconst (v := 0) hx hb dL_untwist_1 (by decide) ?_
  refine lv_aload_n hx hb dL_untwist_2 rfl (lv_at hl 0 rfl) ?_
  refine lv_iload_n hx hb dL_untwist_3 rfl (lv_at hl 1 rfl) ?_
  refine g_HT (As := [.int (nI 1)]) (rest := [.int 0, .ref o]) (E := gIS) ⟨hx, hb, hml, hown, hts⟩ (th_X1_untwist_2_1 l htr dC dI cA s.heap.size x0 r0 r1 r2 r3 rn a1 L f hR hk) (cwV 1 hts gL_untwist_X1_untwist rfl rfl rfl hdX1_untwist ⟨Nat.le_of_ble_eq_true rfl, Nat.le_of_ble_eq_true rfl⟩) hP hK hD hS hA hZ [0, 1, 2] (by decide) rfl (va_recv hK hP (ci := 1) (q0 := 0) rfl rfl) rfl hl.1 rfl (Nat.le_of_ble_eq_true rfl) dL_untwist_4 (Nat.le_of_ble_eq_true rfl) (Nat.le_of_ble_eq_true rfl) (own := RL) hown [⟨0, 9, 12, 19⟩] ⟨0, 9, 15, 21⟩ [] (by rw [htab]; rfl) (fun z hz => by obtain rfl := List.mem_singleton.mp hz; exact ⟨by decide, gIO, (hts (.classLink RL 19 "java/lang/IndexOutOfBoundsException") (List.mem_of_getElem? (i := 1) rfl)), by decide +kernel⟩) (by decide) (by decide) (hts (.classLink RL 21 "java/lang/IllegalStateException") (List.mem_of_getElem? (i := 2) rfl)) (List.mem_of_getElem? (i := 2) rfl) (fun q9 H locs hP hS => ?_)
  refine lv_astore_n (lv' := [(3, .ref q9), (0, .ref x0), (1, .int (nI 1)), (2, .ref o)]) hx hb dL_untwist_15 rfl hl (by decide) rfl (fun ls hl => ?_)
  refine lv_iconst (v := 2) hx hb dL_untwist_16 (by decide) ?_
  exact g_endMi hx hb hr hlocks hP hS dL_untwist_17 () rfl rfl trivial

abbrev mt_L_turn0_rm : Room := { frames := 3, cells := 0, slots := 0, locals := 66 }
set_option maxHeartbeats 4000000 in
set_option maxRecDepth 100000 in
theorem mt_L_turn0 (l : Launch) (htr : l.stackTraces = false) (dC : Nat → ClassId) (dI : Nat → Nat → Nat) (cA cL : ClassId) (sz : Nat) (x0 : Nat) (r0 : Nat) (r1 : Nat) (r2 : Nat) (r3 : Nat) (rn : Nat) (a0 : Nat) (L : List Int32) (f : Nat → Int32) (a3 : Nat) (n3 : Int32) (f3 : Nat → Int32) (o : Nat) (fo : Nat → Int64) (hR : RI L f) : Met l yL_turn wsL_turn mt_L_turn0_rm (va_Pc [.ref x0, .int (nI 0), .ref o] (gBT (dC, dI) [(cA, .int), (cL, .long)] [(x0, .inr (1, [.ref r0, .ref r1, .ref r2, .ref r3, .int (nI rn)])), (r0, .inr (0, [.ref a0, .int (nI L.length)])), (a0, .inl (cA, (100, .inl f))), (r3, .inr (0, [.ref a3, .int n3])), (a3, .inl (cA, (100, .inl f3))), (o, .inl (cL, (1, .inr (.inl fo))))] sz)) (gM (dC, dI) (some (.int 0)) (fun u : (Nat → Int32) × (Nat → Int32) => RI (turnL L) u.1) (fun u : (Nat → Int32) × (Nat → Int32) => [(x0, .inr (1, [.ref r0, .ref r1, .ref r2, .ref r3, .int (nI rn)])), (r0, .inr (0, [.ref a0, .int (nI ((turnL L).length))])), (a0, .inl (cA, (100, .inl u.1))), (r3, .inr (0, [.ref a3, .int (nI ((turnL L).length))])), (a3, .inl (cA, (100, .inl u.2))), (o, .inl (cL, (1, .inr (.inl (vp_updL fo 0 (nI ((turnL L).length)).toInt64)))))]) (va_A [(x0, .inr (1, [.ref r0, .ref r1, .ref r2, .ref r3, .int (nI rn)])), (r0, .inr (0, [.ref a0, .int (nI L.length)])), (a0, .inl (cA, (100, .inl f))), (r3, .inr (0, [.ref a3, .int n3])), (a3, .inl (cA, (100, .inl f3))), (o, .inl (cL, (1, .inr (.inl fo))))] sz)) 0 0 (va_A [(x0, .inr (1, [.ref r0, .ref r1, .ref r2, .ref r3, .int (nI rn)])), (r0, .inr (0, [.ref a0, .int (nI L.length)])), (a0, .inl (cA, (100, .inl f))), (r3, .inr (0, [.ref a3, .int n3])), (a3, .inl (cA, (100, .inl f3))), (o, .inl (cL, (1, .inr (.inl fo))))] sz) := by
  refine g_ofH (cc := cL_turn) (maxL := 4) (ret := (some .int)) (by decide) rfl (Nat.le_of_ble_eq_true rfl) (fun p e s m below meth c ls hx hb hr hml hts hown hlocks htab hP hKl hl A hA hD hS hZ => ?_)
  have hK : va_K (dC, dI) vwCl [(cA, .int)] s := hKl.sub [0] rfl
  have hl : lv_has ls 4 [(0, .ref x0), (1, .int (nI 0)), (2, .ref o)] := hl
  refine lv_aload_n hx hb dL_turn_0 rfl (lv_at hl 2 rfl) ?_
  refine lv_iconst (v := 0) hx hb dL_turn_1 (by decide) ?_
  refine lv_aload_n hx hb dL_turn_2 rfl (lv_at hl 0 rfl) ?_
  refine lv_iload_n hx hb dL_turn_3 rfl (lv_at hl 1 rfl) ?_
  refine g_MVi (As := [.int (nI 0)]) (rest := [.int 0, .ref o]) ⟨hx, hb, hml, hown, hts⟩ (mt_X1_turn0 l dC dI cA s.heap.size x0 r0 r1 r2 r3 rn a0 L f a3 n3 f3 hR) (cwV 1 hts gL_turn_X1_turn rfl rfl rfl hdX1_turn ⟨Nat.le_of_ble_eq_true rfl, Nat.le_of_ble_eq_true rfl⟩) hP hK hD hS hA [0, 1, 2, 3, 4] (by decide) rfl (va_recv hK hP (ci := 1) (q0 := 0) rfl rfl) rfl hl.1 rfl (Nat.le_of_ble_eq_true rfl) dL_turn_4 (Nat.zero_le _) (Nat.zero_le _) (fun u9 => [(x0, .inr (1, [.ref r0, .ref r1, .ref r2, .ref r3, .int (nI rn)])), (r0, .inr (0, [.ref a0, .int (nI ((turnL L).length))])), (a0, .inl (cA, (100, .inl u9.1))), (r3, .inr (0, [.ref a3, .int (nI ((turnL L).length))])), (a3, .inl (cA, (100, .inl u9.2))), (o, .inl (cL, (1, .inr (.inl fo))))]) (fun _ => rfl) (fun _ => rfl) (fun u H locs hw_3 hP hD hS => ?_)
  obtain ⟨g1_1, g3_2⟩ := u
  have hw_3 : RI (turnL L) g1_1 := hw_3
  have hP : va_P (dC, dI) vwCl [(x0, .inr (1, [.ref r0, .ref r1, .ref r2, .ref r3, .int (nI rn)])), (r0, .inr (0, [.ref a0, .int (nI ((turnL L).length))])), (a0, .inl (cA, (100, .inl g1_1))), (r3, .inr (0, [.ref a3, .int (nI ((turnL L).length))])), (a3, .inl (cA, (100, .inl g3_2))), (o, .inl (cL, (1, .inr (.inl fo))))] H := hP
  have hD : va_D A [(x0, .inr (1, [.ref r0, .ref r1, .ref r2, .ref r3, .int (nI rn)])), (r0, .inr (0, [.ref a0, .int (nI ((turnL L).length))])), (a0, .inl (cA, (100, .inl g1_1))), (r3, .inr (0, [.ref a3, .int (nI ((turnL L).length))])), (a3, .inl (cA, (100, .inl g3_2))), (o, .inl (cL, (1, .inr (.inl fo))))] := hD
  refine lv_i2l (v := (nI ((turnL L).length)).toInt64) hx hb dL_turn_7 rfl ?_
  refine va_last hx hb hKl hP hD hS 5 1 rfl rfl (vp_in_nI (n := 0) (by omega) (by decide)) dL_turn_8 (fun H locs hP hD hS => ?_)
  rw [show (0 : Int32).toNatClampNeg = 0 from by decide] at hP hD
  have hP : va_P (dC, dI) vwCl [(x0, .inr (1, [.ref r0, .ref r1, .ref r2, .ref r3, .int (nI rn)])), (r0, .inr (0, [.ref a0, .int (nI ((turnL L).length))])), (a0, .inl (cA, (100, .inl g1_1))), (r3, .inr (0, [.ref a3, .int (nI ((turnL L).length))])), (a3, .inl (cA, (100, .inl g3_2))), (o, .inl (cL, (1, .inr (.inl (vp_updL fo 0 ((nI ((turnL L).length)).toInt64))))))] H := hP
  have hD : va_D A [(x0, .inr (1, [.ref r0, .ref r1, .ref r2, .ref r3, .int (nI rn)])), (r0, .inr (0, [.ref a0, .int (nI ((turnL L).length))])), (a0, .inl (cA, (100, .inl g1_1))), (r3, .inr (0, [.ref a3, .int (nI ((turnL L).length))])), (a3, .inl (cA, (100, .inl g3_2))), (o, .inl (cL, (1, .inr (.inl (vp_updL fo 0 ((nI ((turnL L).length)).toInt64))))))] := hD
  refine lv_goto (tgt := 15) hx hb dL_turn_9 (by decide) ?_
  refine lv_iconst (v := 0) hx hb dL_turn_15 (by decide) ?_
  exact g_endMi hx hb hr hlocks hP hS dL_turn_16 (g1_1, g3_2) rfl rfl hw_3

abbrev mt_L_turn1_rm : Room := { frames := 3, cells := 0, slots := 0, locals := 66 }
set_option maxHeartbeats 4000000 in
set_option maxRecDepth 100000 in
theorem mt_L_turn1 (l : Launch) (htr : l.stackTraces = false) (dC : Nat → ClassId) (dI : Nat → Nat → Nat) (cA cL : ClassId) (sz : Nat) (x0 : Nat) (r0 : Nat) (r1 : Nat) (r2 : Nat) (r3 : Nat) (rn : Nat) (a1 : Nat) (L : List Int32) (f : Nat → Int32) (a3 : Nat) (n3 : Int32) (f3 : Nat → Int32) (o : Nat) (fo : Nat → Int64) (hR : RI L f) : Met l yL_turn wsL_turn mt_L_turn1_rm (va_Pc [.ref x0, .int (nI 1), .ref o] (gBT (dC, dI) [(cA, .int), (cL, .long)] [(x0, .inr (1, [.ref r0, .ref r1, .ref r2, .ref r3, .int (nI rn)])), (r1, .inr (0, [.ref a1, .int (nI L.length)])), (a1, .inl (cA, (100, .inl f))), (r3, .inr (0, [.ref a3, .int n3])), (a3, .inl (cA, (100, .inl f3))), (o, .inl (cL, (1, .inr (.inl fo))))] sz)) (gM (dC, dI) (some (.int 0)) (fun u : (Nat → Int32) × (Nat → Int32) => RI (turnL L) u.1) (fun u : (Nat → Int32) × (Nat → Int32) => [(x0, .inr (1, [.ref r0, .ref r1, .ref r2, .ref r3, .int (nI rn)])), (r1, .inr (0, [.ref a1, .int (nI ((turnL L).length))])), (a1, .inl (cA, (100, .inl u.1))), (r3, .inr (0, [.ref a3, .int (nI ((turnL L).length))])), (a3, .inl (cA, (100, .inl u.2))), (o, .inl (cL, (1, .inr (.inl (vp_updL fo 0 (nI ((turnL L).length)).toInt64)))))]) (va_A [(x0, .inr (1, [.ref r0, .ref r1, .ref r2, .ref r3, .int (nI rn)])), (r1, .inr (0, [.ref a1, .int (nI L.length)])), (a1, .inl (cA, (100, .inl f))), (r3, .inr (0, [.ref a3, .int n3])), (a3, .inl (cA, (100, .inl f3))), (o, .inl (cL, (1, .inr (.inl fo))))] sz)) 0 0 (va_A [(x0, .inr (1, [.ref r0, .ref r1, .ref r2, .ref r3, .int (nI rn)])), (r1, .inr (0, [.ref a1, .int (nI L.length)])), (a1, .inl (cA, (100, .inl f))), (r3, .inr (0, [.ref a3, .int n3])), (a3, .inl (cA, (100, .inl f3))), (o, .inl (cL, (1, .inr (.inl fo))))] sz) := by
  refine g_ofH (cc := cL_turn) (maxL := 4) (ret := (some .int)) (by decide) rfl (Nat.le_of_ble_eq_true rfl) (fun p e s m below meth c ls hx hb hr hml hts hown hlocks htab hP hKl hl A hA hD hS hZ => ?_)
  have hK : va_K (dC, dI) vwCl [(cA, .int)] s := hKl.sub [0] rfl
  have hl : lv_has ls 4 [(0, .ref x0), (1, .int (nI 1)), (2, .ref o)] := hl
  refine lv_aload_n hx hb dL_turn_0 rfl (lv_at hl 2 rfl) ?_
  refine lv_iconst (v := 0) hx hb dL_turn_1 (by decide) ?_
  refine lv_aload_n hx hb dL_turn_2 rfl (lv_at hl 0 rfl) ?_
  refine lv_iload_n hx hb dL_turn_3 rfl (lv_at hl 1 rfl) ?_
  refine g_MVi (As := [.int (nI 1)]) (rest := [.int 0, .ref o]) ⟨hx, hb, hml, hown, hts⟩ (mt_X1_turn1 l dC dI cA s.heap.size x0 r0 r1 r2 r3 rn a1 L f a3 n3 f3 hR) (cwV 1 hts gL_turn_X1_turn rfl rfl rfl hdX1_turn ⟨Nat.le_of_ble_eq_true rfl, Nat.le_of_ble_eq_true rfl⟩) hP hK hD hS hA [0, 1, 2, 3, 4] (by decide) rfl (va_recv hK hP (ci := 1) (q0 := 0) rfl rfl) rfl hl.1 rfl (Nat.le_of_ble_eq_true rfl) dL_turn_4 (Nat.zero_le _) (Nat.zero_le _) (fun u9 => [(x0, .inr (1, [.ref r0, .ref r1, .ref r2, .ref r3, .int (nI rn)])), (r1, .inr (0, [.ref a1, .int (nI ((turnL L).length))])), (a1, .inl (cA, (100, .inl u9.1))), (r3, .inr (0, [.ref a3, .int (nI ((turnL L).length))])), (a3, .inl (cA, (100, .inl u9.2))), (o, .inl (cL, (1, .inr (.inl fo))))]) (fun _ => rfl) (fun _ => rfl) (fun u H locs hw_3 hP hD hS => ?_)
  obtain ⟨g1_1, g3_2⟩ := u
  have hw_3 : RI (turnL L) g1_1 := hw_3
  have hP : va_P (dC, dI) vwCl [(x0, .inr (1, [.ref r0, .ref r1, .ref r2, .ref r3, .int (nI rn)])), (r1, .inr (0, [.ref a1, .int (nI ((turnL L).length))])), (a1, .inl (cA, (100, .inl g1_1))), (r3, .inr (0, [.ref a3, .int (nI ((turnL L).length))])), (a3, .inl (cA, (100, .inl g3_2))), (o, .inl (cL, (1, .inr (.inl fo))))] H := hP
  have hD : va_D A [(x0, .inr (1, [.ref r0, .ref r1, .ref r2, .ref r3, .int (nI rn)])), (r1, .inr (0, [.ref a1, .int (nI ((turnL L).length))])), (a1, .inl (cA, (100, .inl g1_1))), (r3, .inr (0, [.ref a3, .int (nI ((turnL L).length))])), (a3, .inl (cA, (100, .inl g3_2))), (o, .inl (cL, (1, .inr (.inl fo))))] := hD
  refine lv_i2l (v := (nI ((turnL L).length)).toInt64) hx hb dL_turn_7 rfl ?_
  refine va_last hx hb hKl hP hD hS 5 1 rfl rfl (vp_in_nI (n := 0) (by omega) (by decide)) dL_turn_8 (fun H locs hP hD hS => ?_)
  rw [show (0 : Int32).toNatClampNeg = 0 from by decide] at hP hD
  have hP : va_P (dC, dI) vwCl [(x0, .inr (1, [.ref r0, .ref r1, .ref r2, .ref r3, .int (nI rn)])), (r1, .inr (0, [.ref a1, .int (nI ((turnL L).length))])), (a1, .inl (cA, (100, .inl g1_1))), (r3, .inr (0, [.ref a3, .int (nI ((turnL L).length))])), (a3, .inl (cA, (100, .inl g3_2))), (o, .inl (cL, (1, .inr (.inl (vp_updL fo 0 ((nI ((turnL L).length)).toInt64))))))] H := hP
  have hD : va_D A [(x0, .inr (1, [.ref r0, .ref r1, .ref r2, .ref r3, .int (nI rn)])), (r1, .inr (0, [.ref a1, .int (nI ((turnL L).length))])), (a1, .inl (cA, (100, .inl g1_1))), (r3, .inr (0, [.ref a3, .int (nI ((turnL L).length))])), (a3, .inl (cA, (100, .inl g3_2))), (o, .inl (cL, (1, .inr (.inl (vp_updL fo 0 ((nI ((turnL L).length)).toInt64))))))] := hD
  refine lv_goto (tgt := 15) hx hb dL_turn_9 (by decide) ?_
  refine lv_iconst (v := 0) hx hb dL_turn_15 (by decide) ?_
  exact g_endMi hx hb hr hlocks hP hS dL_turn_16 (g1_1, g3_2) rfl rfl hw_3

abbrev mt_L_turn_1_rm : Room := { frames := 8, cells := 1, slots := 6, locals := 132 }
set_option maxHeartbeats 4000000 in
set_option maxRecDepth 100000 in
theorem mt_L_turn_1 (l : Launch) (htr : l.stackTraces = false) (dC : Nat → ClassId) (dI : Nat → Nat → Nat) (cA cL : ClassId) (sz : Nat) (x0 : Nat) (wd : Int32) (r0 : Nat) (r1 : Nat) (r2 : Nat) (r3 : Nat) (R9 : Int32) (o : Nat) (fo : Nat → Int64) (hbad : wd < 0 ∨ 1 < wd) : Met l yL_turn wsL_turn mt_L_turn_1_rm (va_Pc [.ref x0, .int wd, .ref o] (gBT (dC, dI) [(cA, .int), (cL, .long)] [(x0, .inr (1, [.ref r0, .ref r1, .ref r2, .ref r3, .int R9])), (o, .inl (cL, (1, .inr (.inl fo))))] sz)) (gM (dC, dI) (some (.int 1)) (fun u : Unit => True) (fun u : Unit => [(x0, .inr (1, [.ref r0, .ref r1, .ref r2, .ref r3, .int R9])), (o, .inl (cL, (1, .inr (.inl fo))))]) (va_A [(x0, .inr (1, [.ref r0, .ref r1, .ref r2, .ref r3, .int R9])), (o, .inl (cL, (1, .inr (.inl fo))))] sz)) 1 6 (va_A [(x0, .inr (1, [.ref r0, .ref r1, .ref r2, .ref r3, .int R9])), (o, .inl (cL, (1, .inr (.inl fo))))] sz) := by
  refine g_ofH (cc := cL_turn) (maxL := 4) (ret := (some .int)) (by decide) rfl (Nat.le_of_ble_eq_true rfl) (fun p e s m below meth c ls hx hb hr hml hts hown hlocks htab hP hKl hl A hA hD hS hZ => ?_)
  have hK : va_K (dC, dI) vwCl [(cA, .int)] s := hKl.sub [0] rfl
  have hl : lv_has ls 4 [(0, .ref x0), (1, .int wd), (2, .ref o)] := hl
  refine lv_aload_n hx hb dL_turn_0 rfl (lv_at hl 2 rfl) ?_
  refine lv_iconst (v := 0) hx hb dL_turn_1 (by decide) ?_
  refine lv_aload_n hx hb dL_turn_2 rfl (lv_at hl 0 rfl) ?_
  refine lv_iload_n hx hb dL_turn_3 rfl (lv_at hl 1 rfl) ?_
  refine g_HT (As := [.int wd]) (rest := [.int 0, .ref o]) (E := gIO) ⟨hx, hb, hml, hown, hts⟩ (th_X1_turn_1 l htr dC dI cA s.heap.size x0 wd hbad) (cwV 1 hts gL_turn_X1_turn rfl rfl rfl hdX1_turn ⟨Nat.le_of_ble_eq_true rfl, Nat.le_of_ble_eq_true rfl⟩) hP hK hD hS hA hZ [] (by decide) rfl (va_recv hK hP (ci := 1) (q0 := 0) rfl rfl) rfl hl.1 rfl (Nat.le_of_ble_eq_true rfl) dL_turn_4 (Nat.le_of_ble_eq_true rfl) (Nat.le_of_ble_eq_true rfl) (own := RL) hown [] ⟨0, 9, 12, 19⟩ [] (by rw [htab]; rfl) (fun z hz => absurd hz List.not_mem_nil) (by decide) (by decide) (hts (.classLink RL 19 "java/lang/IndexOutOfBoundsException") (List.mem_of_getElem? (i := 1) rfl)) (List.mem_of_getElem? (i := 1) rfl) (fun q9 H locs hP hS => ?_)
  refine lv_astore_n (lv' := [(3, .ref q9), (0, .ref x0), (1, .int wd), (2, .ref o)]) hx hb dL_turn_12 rfl hl (by decide) rfl (fun ls hl => ?_)
  refine lv_iconst (v := 1) hx hb dL_turn_13 (by decide) ?_
  exact g_endMi hx hb hr hlocks hP hS dL_turn_14 () rfl rfl trivial

abbrev mt_L_join0_rm : Room := { frames := 3, cells := 0, slots := 0, locals := 67 }
set_option maxHeartbeats 4000000 in
set_option maxRecDepth 100000 in
theorem mt_L_join0 (l : Launch) (htr : l.stackTraces = false) (dC : Nat → ClassId) (dI : Nat → Nat → Nat) (cA cL : ClassId) (sz : Nat) (x0 : Nat) (r0 : Nat) (r1 : Nat) (r2 : Nat) (r3 : Nat) (rn : Nat) (a0 : Nat) (a1 : Nat) (L : List Int32) (f : Nat → Int32) (M : List Int32) (f9 : Nat → Int32) (o : Nat) (fo : Nat → Int64) (hR : RI L f) (hR9 : RI M f9) (hk : L.length + M.length ≤ 30) : Met l yL_join wsL_join mt_L_join0_rm (va_Pc [.ref x0, .int (nI 0), .ref o] (gBT (dC, dI) [(cA, .int), (cL, .long)] [(x0, .inr (1, [.ref r0, .ref r1, .ref r2, .ref r3, .int (nI rn)])), (r0, .inr (0, [.ref a0, .int (nI L.length)])), (a0, .inl (cA, (100, .inl f))), (r1, .inr (0, [.ref a1, .int (nI M.length)])), (a1, .inl (cA, (100, .inl f9))), (o, .inl (cL, (1, .inr (.inl fo))))] sz)) (gM (dC, dI) (some (.int 0)) (fun u : (Nat → Int32) => RI (L ++ M) u) (fun u : (Nat → Int32) => [(x0, .inr (1, [.ref r0, .ref r1, .ref r2, .ref r3, .int (nI rn)])), (r0, .inr (0, [.ref a0, .int (nI ((L ++ M).length))])), (a0, .inl (cA, (100, .inl u))), (r1, .inr (0, [.ref a1, .int (nI M.length)])), (a1, .inl (cA, (100, .inl f9))), (o, .inl (cL, (1, .inr (.inl (vp_updL fo 0 (nI ((L ++ M).length)).toInt64)))))]) (va_A [(x0, .inr (1, [.ref r0, .ref r1, .ref r2, .ref r3, .int (nI rn)])), (r0, .inr (0, [.ref a0, .int (nI L.length)])), (a0, .inl (cA, (100, .inl f))), (r1, .inr (0, [.ref a1, .int (nI M.length)])), (a1, .inl (cA, (100, .inl f9))), (o, .inl (cL, (1, .inr (.inl fo))))] sz)) 0 0 (va_A [(x0, .inr (1, [.ref r0, .ref r1, .ref r2, .ref r3, .int (nI rn)])), (r0, .inr (0, [.ref a0, .int (nI L.length)])), (a0, .inl (cA, (100, .inl f))), (r1, .inr (0, [.ref a1, .int (nI M.length)])), (a1, .inl (cA, (100, .inl f9))), (o, .inl (cL, (1, .inr (.inl fo))))] sz) := by
  refine g_ofH (cc := cL_join) (maxL := 4) (ret := (some .int)) (by decide) rfl (Nat.le_of_ble_eq_true rfl) (fun p e s m below meth c ls hx hb hr hml hts hown hlocks htab hP hKl hl A hA hD hS hZ => ?_)
  have hK : va_K (dC, dI) vwCl [(cA, .int)] s := hKl.sub [0] rfl
  have hl : lv_has ls 4 [(0, .ref x0), (1, .int (nI 0)), (2, .ref o)] := hl
  refine lv_aload_n hx hb dL_join_0 rfl (lv_at hl 2 rfl) ?_
  refine lv_iconst (v := 0) hx hb dL_join_1 (by decide) ?_
  refine lv_aload_n hx hb dL_join_2 rfl (lv_at hl 0 rfl) ?_
  refine lv_iload_n hx hb dL_join_3 rfl (lv_at hl 1 rfl) ?_
  refine g_MVi (As := [.int (nI 0)]) (rest := [.int 0, .ref o]) ⟨hx, hb, hml, hown, hts⟩ (mt_X1_join0 l dC dI cA s.heap.size x0 r0 r1 r2 r3 rn a0 a1 L f M f9 hR hR9 hk) (cwV 1 hts gL_join_X1_join rfl rfl rfl hdX1_join ⟨Nat.le_of_ble_eq_true rfl, Nat.le_of_ble_eq_true rfl⟩) hP hK hD hS hA [0, 1, 2, 3, 4] (by decide) rfl (va_recv hK hP (ci := 1) (q0 := 0) rfl rfl) rfl hl.1 rfl (Nat.le_of_ble_eq_true rfl) dL_join_4 (Nat.zero_le _) (Nat.zero_le _) (fun u9 => [(x0, .inr (1, [.ref r0, .ref r1, .ref r2, .ref r3, .int (nI rn)])), (r0, .inr (0, [.ref a0, .int (nI ((L ++ M).length))])), (a0, .inl (cA, (100, .inl u9))), (r1, .inr (0, [.ref a1, .int (nI M.length)])), (a1, .inl (cA, (100, .inl f9))), (o, .inl (cL, (1, .inr (.inl fo))))]) (fun _ => rfl) (fun _ => rfl) (fun u H locs hw_2 hP hD hS => ?_)
  obtain ⟨f1_1, rfl⟩ : ∃ z, z = u := ⟨_, rfl⟩
  have hw_2 : RI (L ++ M) f1_1 := hw_2
  have hP : va_P (dC, dI) vwCl [(x0, .inr (1, [.ref r0, .ref r1, .ref r2, .ref r3, .int (nI rn)])), (r0, .inr (0, [.ref a0, .int (nI ((L ++ M).length))])), (a0, .inl (cA, (100, .inl f1_1))), (r1, .inr (0, [.ref a1, .int (nI M.length)])), (a1, .inl (cA, (100, .inl f9))), (o, .inl (cL, (1, .inr (.inl fo))))] H := hP
  have hD : va_D A [(x0, .inr (1, [.ref r0, .ref r1, .ref r2, .ref r3, .int (nI rn)])), (r0, .inr (0, [.ref a0, .int (nI ((L ++ M).length))])), (a0, .inl (cA, (100, .inl f1_1))), (r1, .inr (0, [.ref a1, .int (nI M.length)])), (a1, .inl (cA, (100, .inl f9))), (o, .inl (cL, (1, .inr (.inl fo))))] := hD
  refine lv_i2l (v := (nI ((L ++ M).length)).toInt64) hx hb dL_join_7 rfl ?_
  refine va_last hx hb hKl hP hD hS 5 1 rfl rfl (vp_in_nI (n := 0) (by omega) (by decide)) dL_join_8 (fun H locs hP hD hS => ?_)
  rw [show (0 : Int32).toNatClampNeg = 0 from by decide] at hP hD
  have hP : va_P (dC, dI) vwCl [(x0, .inr (1, [.ref r0, .ref r1, .ref r2, .ref r3, .int (nI rn)])), (r0, .inr (0, [.ref a0, .int (nI ((L ++ M).length))])), (a0, .inl (cA, (100, .inl f1_1))), (r1, .inr (0, [.ref a1, .int (nI M.length)])), (a1, .inl (cA, (100, .inl f9))), (o, .inl (cL, (1, .inr (.inl (vp_updL fo 0 ((nI ((L ++ M).length)).toInt64))))))] H := hP
  have hD : va_D A [(x0, .inr (1, [.ref r0, .ref r1, .ref r2, .ref r3, .int (nI rn)])), (r0, .inr (0, [.ref a0, .int (nI ((L ++ M).length))])), (a0, .inl (cA, (100, .inl f1_1))), (r1, .inr (0, [.ref a1, .int (nI M.length)])), (a1, .inl (cA, (100, .inl f9))), (o, .inl (cL, (1, .inr (.inl (vp_updL fo 0 ((nI ((L ++ M).length)).toInt64))))))] := hD
  refine lv_goto (tgt := 18) hx hb dL_join_9 (by decide) ?_
  refine lv_iconst (v := 0) hx hb dL_join_18 (by decide) ?_
  exact g_endMi hx hb hr hlocks hP hS dL_join_19 (f1_1) rfl rfl hw_2

abbrev mt_L_join1_rm : Room := { frames := 3, cells := 0, slots := 0, locals := 67 }
set_option maxHeartbeats 4000000 in
set_option maxRecDepth 100000 in
theorem mt_L_join1 (l : Launch) (htr : l.stackTraces = false) (dC : Nat → ClassId) (dI : Nat → Nat → Nat) (cA cL : ClassId) (sz : Nat) (x0 : Nat) (r0 : Nat) (r1 : Nat) (r2 : Nat) (r3 : Nat) (rn : Nat) (a1 : Nat) (a0 : Nat) (L : List Int32) (f : Nat → Int32) (M : List Int32) (f9 : Nat → Int32) (o : Nat) (fo : Nat → Int64) (hR : RI L f) (hR9 : RI M f9) (hk : L.length + M.length ≤ 30) : Met l yL_join wsL_join mt_L_join1_rm (va_Pc [.ref x0, .int (nI 1), .ref o] (gBT (dC, dI) [(cA, .int), (cL, .long)] [(x0, .inr (1, [.ref r0, .ref r1, .ref r2, .ref r3, .int (nI rn)])), (r1, .inr (0, [.ref a1, .int (nI L.length)])), (a1, .inl (cA, (100, .inl f))), (r0, .inr (0, [.ref a0, .int (nI M.length)])), (a0, .inl (cA, (100, .inl f9))), (o, .inl (cL, (1, .inr (.inl fo))))] sz)) (gM (dC, dI) (some (.int 0)) (fun u : (Nat → Int32) => RI (L ++ M) u) (fun u : (Nat → Int32) => [(x0, .inr (1, [.ref r0, .ref r1, .ref r2, .ref r3, .int (nI rn)])), (r1, .inr (0, [.ref a1, .int (nI ((L ++ M).length))])), (a1, .inl (cA, (100, .inl u))), (r0, .inr (0, [.ref a0, .int (nI M.length)])), (a0, .inl (cA, (100, .inl f9))), (o, .inl (cL, (1, .inr (.inl (vp_updL fo 0 (nI ((L ++ M).length)).toInt64)))))]) (va_A [(x0, .inr (1, [.ref r0, .ref r1, .ref r2, .ref r3, .int (nI rn)])), (r1, .inr (0, [.ref a1, .int (nI L.length)])), (a1, .inl (cA, (100, .inl f))), (r0, .inr (0, [.ref a0, .int (nI M.length)])), (a0, .inl (cA, (100, .inl f9))), (o, .inl (cL, (1, .inr (.inl fo))))] sz)) 0 0 (va_A [(x0, .inr (1, [.ref r0, .ref r1, .ref r2, .ref r3, .int (nI rn)])), (r1, .inr (0, [.ref a1, .int (nI L.length)])), (a1, .inl (cA, (100, .inl f))), (r0, .inr (0, [.ref a0, .int (nI M.length)])), (a0, .inl (cA, (100, .inl f9))), (o, .inl (cL, (1, .inr (.inl fo))))] sz) := by
  refine g_ofH (cc := cL_join) (maxL := 4) (ret := (some .int)) (by decide) rfl (Nat.le_of_ble_eq_true rfl) (fun p e s m below meth c ls hx hb hr hml hts hown hlocks htab hP hKl hl A hA hD hS hZ => ?_)
  have hK : va_K (dC, dI) vwCl [(cA, .int)] s := hKl.sub [0] rfl
  have hl : lv_has ls 4 [(0, .ref x0), (1, .int (nI 1)), (2, .ref o)] := hl
  refine lv_aload_n hx hb dL_join_0 rfl (lv_at hl 2 rfl) ?_
  refine lv_iconst (v := 0) hx hb dL_join_1 (by decide) ?_
  refine lv_aload_n hx hb dL_join_2 rfl (lv_at hl 0 rfl) ?_
  refine lv_iload_n hx hb dL_join_3 rfl (lv_at hl 1 rfl) ?_
  refine g_MVi (As := [.int (nI 1)]) (rest := [.int 0, .ref o]) ⟨hx, hb, hml, hown, hts⟩ (mt_X1_join1 l dC dI cA s.heap.size x0 r0 r1 r2 r3 rn a1 a0 L f M f9 hR hR9 hk) (cwV 1 hts gL_join_X1_join rfl rfl rfl hdX1_join ⟨Nat.le_of_ble_eq_true rfl, Nat.le_of_ble_eq_true rfl⟩) hP hK hD hS hA [0, 1, 2, 3, 4] (by decide) rfl (va_recv hK hP (ci := 1) (q0 := 0) rfl rfl) rfl hl.1 rfl (Nat.le_of_ble_eq_true rfl) dL_join_4 (Nat.zero_le _) (Nat.zero_le _) (fun u9 => [(x0, .inr (1, [.ref r0, .ref r1, .ref r2, .ref r3, .int (nI rn)])), (r1, .inr (0, [.ref a1, .int (nI ((L ++ M).length))])), (a1, .inl (cA, (100, .inl u9))), (r0, .inr (0, [.ref a0, .int (nI M.length)])), (a0, .inl (cA, (100, .inl f9))), (o, .inl (cL, (1, .inr (.inl fo))))]) (fun _ => rfl) (fun _ => rfl) (fun u H locs hw_2 hP hD hS => ?_)
  obtain ⟨f1_1, rfl⟩ : ∃ z, z = u := ⟨_, rfl⟩
  have hw_2 : RI (L ++ M) f1_1 := hw_2
  have hP : va_P (dC, dI) vwCl [(x0, .inr (1, [.ref r0, .ref r1, .ref r2, .ref r3, .int (nI rn)])), (r1, .inr (0, [.ref a1, .int (nI ((L ++ M).length))])), (a1, .inl (cA, (100, .inl f1_1))), (r0, .inr (0, [.ref a0, .int (nI M.length)])), (a0, .inl (cA, (100, .inl f9))), (o, .inl (cL, (1, .inr (.inl fo))))] H := hP
  have hD : va_D A [(x0, .inr (1, [.ref r0, .ref r1, .ref r2, .ref r3, .int (nI rn)])), (r1, .inr (0, [.ref a1, .int (nI ((L ++ M).length))])), (a1, .inl (cA, (100, .inl f1_1))), (r0, .inr (0, [.ref a0, .int (nI M.length)])), (a0, .inl (cA, (100, .inl f9))), (o, .inl (cL, (1, .inr (.inl fo))))] := hD
  refine lv_i2l (v := (nI ((L ++ M).length)).toInt64) hx hb dL_join_7 rfl ?_
  refine va_last hx hb hKl hP hD hS 5 1 rfl rfl (vp_in_nI (n := 0) (by omega) (by decide)) dL_join_8 (fun H locs hP hD hS => ?_)
  rw [show (0 : Int32).toNatClampNeg = 0 from by decide] at hP hD
  have hP : va_P (dC, dI) vwCl [(x0, .inr (1, [.ref r0, .ref r1, .ref r2, .ref r3, .int (nI rn)])), (r1, .inr (0, [.ref a1, .int (nI ((L ++ M).length))])), (a1, .inl (cA, (100, .inl f1_1))), (r0, .inr (0, [.ref a0, .int (nI M.length)])), (a0, .inl (cA, (100, .inl f9))), (o, .inl (cL, (1, .inr (.inl (vp_updL fo 0 ((nI ((L ++ M).length)).toInt64))))))] H := hP
  have hD : va_D A [(x0, .inr (1, [.ref r0, .ref r1, .ref r2, .ref r3, .int (nI rn)])), (r1, .inr (0, [.ref a1, .int (nI ((L ++ M).length))])), (a1, .inl (cA, (100, .inl f1_1))), (r0, .inr (0, [.ref a0, .int (nI M.length)])), (a0, .inl (cA, (100, .inl f9))), (o, .inl (cL, (1, .inr (.inl (vp_updL fo 0 ((nI ((L ++ M).length)).toInt64))))))] := hD
  refine lv_goto (tgt := 18) hx hb dL_join_9 (by decide) ?_
  refine lv_iconst (v := 0) hx hb dL_join_18 (by decide) ?_
  exact g_endMi hx hb hr hlocks hP hS dL_join_19 (f1_1) rfl rfl hw_2

abbrev mt_L_join_1_rm : Room := { frames := 8, cells := 1, slots := 6, locals := 133 }
set_option maxHeartbeats 4000000 in
set_option maxRecDepth 100000 in
theorem mt_L_join_1 (l : Launch) (htr : l.stackTraces = false) (dC : Nat → ClassId) (dI : Nat → Nat → Nat) (cA cL : ClassId) (sz : Nat) (x0 : Nat) (wd : Int32) (r0 : Nat) (r1 : Nat) (r2 : Nat) (r3 : Nat) (R9 : Int32) (o : Nat) (fo : Nat → Int64) (hbad : wd < 0 ∨ 1 < wd) : Met l yL_join wsL_join mt_L_join_1_rm (va_Pc [.ref x0, .int wd, .ref o] (gBT (dC, dI) [(cA, .int), (cL, .long)] [(x0, .inr (1, [.ref r0, .ref r1, .ref r2, .ref r3, .int R9])), (o, .inl (cL, (1, .inr (.inl fo))))] sz)) (gM (dC, dI) (some (.int 1)) (fun u : Unit => True) (fun u : Unit => [(x0, .inr (1, [.ref r0, .ref r1, .ref r2, .ref r3, .int R9])), (o, .inl (cL, (1, .inr (.inl fo))))]) (va_A [(x0, .inr (1, [.ref r0, .ref r1, .ref r2, .ref r3, .int R9])), (o, .inl (cL, (1, .inr (.inl fo))))] sz)) 1 6 (va_A [(x0, .inr (1, [.ref r0, .ref r1, .ref r2, .ref r3, .int R9])), (o, .inl (cL, (1, .inr (.inl fo))))] sz) := by
  refine g_ofH (cc := cL_join) (maxL := 4) (ret := (some .int)) (by decide) rfl (Nat.le_of_ble_eq_true rfl) (fun p e s m below meth c ls hx hb hr hml hts hown hlocks htab hP hKl hl A hA hD hS hZ => ?_)
  have hK : va_K (dC, dI) vwCl [(cA, .int)] s := hKl.sub [0] rfl
  have hl : lv_has ls 4 [(0, .ref x0), (1, .int wd), (2, .ref o)] := hl
  refine lv_aload_n hx hb dL_join_0 rfl (lv_at hl 2 rfl) ?_
  refine lv_iconst (v := 0) hx hb dL_join_1 (by decide) ?_
  refine lv_aload_n hx hb dL_join_2 rfl (lv_at hl 0 rfl) ?_
  refine lv_iload_n hx hb dL_join_3 rfl (lv_at hl 1 rfl) ?_
  refine g_HT (As := [.int wd]) (rest := [.int 0, .ref o]) (E := gIO) ⟨hx, hb, hml, hown, hts⟩ (th_X1_join_1 l htr dC dI cA s.heap.size x0 wd hbad) (cwV 1 hts gL_join_X1_join rfl rfl rfl hdX1_join ⟨Nat.le_of_ble_eq_true rfl, Nat.le_of_ble_eq_true rfl⟩) hP hK hD hS hA hZ [] (by decide) rfl (va_recv hK hP (ci := 1) (q0 := 0) rfl rfl) rfl hl.1 rfl (Nat.le_of_ble_eq_true rfl) dL_join_4 (Nat.le_of_ble_eq_true rfl) (Nat.le_of_ble_eq_true rfl) (own := RL) hown [] ⟨0, 9, 12, 19⟩ [⟨0, 9, 15, 21⟩] (by rw [htab]; rfl) (fun z hz => absurd hz List.not_mem_nil) (by decide) (by decide) (hts (.classLink RL 19 "java/lang/IndexOutOfBoundsException") (List.mem_of_getElem? (i := 1) rfl)) (List.mem_of_getElem? (i := 1) rfl) (fun q9 H locs hP hS => ?_)
  refine lv_astore_n (lv' := [(3, .ref q9), (0, .ref x0), (1, .int wd), (2, .ref o)]) hx hb dL_join_12 rfl hl (by decide) rfl (fun ls hl => ?_)
  refine lv_iconst (v := 1) hx hb dL_join_13 (by decide) ?_
  exact g_endMi hx hb hr hlocks hP hS dL_join_14 () rfl rfl trivial

abbrev mt_L_join_2_0_rm : Room := { frames := 8, cells := 1, slots := 6, locals := 134 }
set_option maxHeartbeats 4000000 in
set_option maxRecDepth 100000 in
theorem mt_L_join_2_0 (l : Launch) (htr : l.stackTraces = false) (dC : Nat → ClassId) (dI : Nat → Nat → Nat) (cA cL : ClassId) (sz : Nat) (x0 : Nat) (r0 : Nat) (r1 : Nat) (r2 : Nat) (r3 : Nat) (rn : Nat) (a0 : Nat) (a1 : Nat) (L : List Int32) (f : Nat → Int32) (M : List Int32) (f9 : Nat → Int32) (o : Nat) (fo : Nat → Int64) (hR : RI L f) (hR9 : RI M f9) (hk : 30 < L.length + M.length) : Met l yL_join wsL_join mt_L_join_2_0_rm (va_Pc [.ref x0, .int (nI 0), .ref o] (gBT (dC, dI) [(cA, .int), (cL, .long)] [(x0, .inr (1, [.ref r0, .ref r1, .ref r2, .ref r3, .int (nI rn)])), (r0, .inr (0, [.ref a0, .int (nI L.length)])), (a0, .inl (cA, (100, .inl f))), (r1, .inr (0, [.ref a1, .int (nI M.length)])), (a1, .inl (cA, (100, .inl f9))), (o, .inl (cL, (1, .inr (.inl fo))))] sz)) (gM (dC, dI) (some (.int 2)) (fun u : Unit => True) (fun u : Unit => [(x0, .inr (1, [.ref r0, .ref r1, .ref r2, .ref r3, .int (nI rn)])), (r0, .inr (0, [.ref a0, .int (nI L.length)])), (a0, .inl (cA, (100, .inl f))), (r1, .inr (0, [.ref a1, .int (nI M.length)])), (a1, .inl (cA, (100, .inl f9))), (o, .inl (cL, (1, .inr (.inl fo))))]) (va_A [(x0, .inr (1, [.ref r0, .ref r1, .ref r2, .ref r3, .int (nI rn)])), (r0, .inr (0, [.ref a0, .int (nI L.length)])), (a0, .inl (cA, (100, .inl f))), (r1, .inr (0, [.ref a1, .int (nI M.length)])), (a1, .inl (cA, (100, .inl f9))), (o, .inl (cL, (1, .inr (.inl fo))))] sz)) 1 6 (va_A [(x0, .inr (1, [.ref r0, .ref r1, .ref r2, .ref r3, .int (nI rn)])), (r0, .inr (0, [.ref a0, .int (nI L.length)])), (a0, .inl (cA, (100, .inl f))), (r1, .inr (0, [.ref a1, .int (nI M.length)])), (a1, .inl (cA, (100, .inl f9))), (o, .inl (cL, (1, .inr (.inl fo))))] sz) := by
  refine g_ofH (cc := cL_join) (maxL := 4) (ret := (some .int)) (by decide) rfl (Nat.le_of_ble_eq_true rfl) (fun p e s m below meth c ls hx hb hr hml hts hown hlocks htab hP hKl hl A hA hD hS hZ => ?_)
  have hK : va_K (dC, dI) vwCl [(cA, .int)] s := hKl.sub [0] rfl
  have hl : lv_has ls 4 [(0, .ref x0), (1, .int (nI 0)), (2, .ref o)] := hl
  refine lv_aload_n hx hb dL_join_0 rfl (lv_at hl 2 rfl) ?_
  refine lv_iconst (v := 0) hx hb dL_join_1 (by decide) ?_
  refine lv_aload_n hx hb dL_join_2 rfl (lv_at hl 0 rfl) ?_
  refine lv_iload_n hx hb dL_join_3 rfl (lv_at hl 1 rfl) ?_
  refine g_HT (As := [.int (nI 0)]) (rest := [.int 0, .ref o]) (E := gIS) ⟨hx, hb, hml, hown, hts⟩ (th_X1_join_2_0 l htr dC dI cA s.heap.size x0 r0 r1 r2 r3 rn a0 a1 L f M f9 hR hR9 hk) (cwV 1 hts gL_join_X1_join rfl rfl rfl hdX1_join ⟨Nat.le_of_ble_eq_true rfl, Nat.le_of_ble_eq_true rfl⟩) hP hK hD hS hA hZ [0, 1, 2, 3, 4] (by decide) rfl (va_recv hK hP (ci := 1) (q0 := 0) rfl rfl) rfl hl.1 rfl (Nat.le_of_ble_eq_true rfl) dL_join_4 (Nat.le_of_ble_eq_true rfl) (Nat.le_of_ble_eq_true rfl) (own := RL) hown [⟨0, 9, 12, 19⟩] ⟨0, 9, 15, 21⟩ [] (by rw [htab]; rfl) (fun z hz => by obtain rfl := List.mem_singleton.mp hz; exact ⟨by decide, gIO, (hts (.classLink RL 19 "java/lang/IndexOutOfBoundsException") (List.mem_of_getElem? (i := 1) rfl)), by decide +kernel⟩) (by decide) (by decide) (hts (.classLink RL 21 "java/lang/IllegalStateException") (List.mem_of_getElem? (i := 2) rfl)) (List.mem_of_getElem? (i := 2) rfl) (fun q9 H locs hP hS => ?_)
  refine lv_astore_n (lv' := [(3, .ref q9), (0, .ref x0), (1, .int (nI 0)), (2, .ref o)]) hx hb dL_join_15 rfl hl (by decide) rfl (fun ls hl => ?_)
  refine lv_iconst (v := 2) hx hb dL_join_16 (by decide) ?_
  exact g_endMi hx hb hr hlocks hP hS dL_join_17 () rfl rfl trivial

abbrev mt_L_join_2_1_rm : Room := { frames := 8, cells := 1, slots := 6, locals := 134 }
set_option maxHeartbeats 4000000 in
set_option maxRecDepth 100000 in
theorem mt_L_join_2_1 (l : Launch) (htr : l.stackTraces = false) (dC : Nat → ClassId) (dI : Nat → Nat → Nat) (cA cL : ClassId) (sz : Nat) (x0 : Nat) (r0 : Nat) (r1 : Nat) (r2 : Nat) (r3 : Nat) (rn : Nat) (a1 : Nat) (a0 : Nat) (L : List Int32) (f : Nat → Int32) (M : List Int32) (f9 : Nat → Int32) (o : Nat) (fo : Nat → Int64) (hR : RI L f) (hR9 : RI M f9) (hk : 30 < L.length + M.length) : Met l yL_join wsL_join mt_L_join_2_1_rm (va_Pc [.ref x0, .int (nI 1), .ref o] (gBT (dC, dI) [(cA, .int), (cL, .long)] [(x0, .inr (1, [.ref r0, .ref r1, .ref r2, .ref r3, .int (nI rn)])), (r1, .inr (0, [.ref a1, .int (nI L.length)])), (a1, .inl (cA, (100, .inl f))), (r0, .inr (0, [.ref a0, .int (nI M.length)])), (a0, .inl (cA, (100, .inl f9))), (o, .inl (cL, (1, .inr (.inl fo))))] sz)) (gM (dC, dI) (some (.int 2)) (fun u : Unit => True) (fun u : Unit => [(x0, .inr (1, [.ref r0, .ref r1, .ref r2, .ref r3, .int (nI rn)])), (r1, .inr (0, [.ref a1, .int (nI L.length)])), (a1, .inl (cA, (100, .inl f))), (r0, .inr (0, [.ref a0, .int (nI M.length)])), (a0, .inl (cA, (100, .inl f9))), (o, .inl (cL, (1, .inr (.inl fo))))]) (va_A [(x0, .inr (1, [.ref r0, .ref r1, .ref r2, .ref r3, .int (nI rn)])), (r1, .inr (0, [.ref a1, .int (nI L.length)])), (a1, .inl (cA, (100, .inl f))), (r0, .inr (0, [.ref a0, .int (nI M.length)])), (a0, .inl (cA, (100, .inl f9))), (o, .inl (cL, (1, .inr (.inl fo))))] sz)) 1 6 (va_A [(x0, .inr (1, [.ref r0, .ref r1, .ref r2, .ref r3, .int (nI rn)])), (r1, .inr (0, [.ref a1, .int (nI L.length)])), (a1, .inl (cA, (100, .inl f))), (r0, .inr (0, [.ref a0, .int (nI M.length)])), (a0, .inl (cA, (100, .inl f9))), (o, .inl (cL, (1, .inr (.inl fo))))] sz) := by
  refine g_ofH (cc := cL_join) (maxL := 4) (ret := (some .int)) (by decide) rfl (Nat.le_of_ble_eq_true rfl) (fun p e s m below meth c ls hx hb hr hml hts hown hlocks htab hP hKl hl A hA hD hS hZ => ?_)
  have hK : va_K (dC, dI) vwCl [(cA, .int)] s := hKl.sub [0] rfl
  have hl : lv_has ls 4 [(0, .ref x0), (1, .int (nI 1)), (2, .ref o)] := hl
  refine lv_aload_n hx hb dL_join_0 rfl (lv_at hl 2 rfl) ?_
  refine lv_iconst (v := 0) hx hb dL_join_1 (by decide) ?_
  refine lv_aload_n hx hb dL_join_2 rfl (lv_at hl 0 rfl) ?_
  refine lv_iload_n hx hb dL_join_3 rfl (lv_at hl 1 rfl) ?_
  refine g_HT (As := [.int (nI 1)]) (rest := [.int 0, .ref o]) (E := gIS) ⟨hx, hb, hml, hown, hts⟩ (th_X1_join_2_1 l htr dC dI cA s.heap.size x0 r0 r1 r2 r3 rn a1 a0 L f M f9 hR hR9 hk) (cwV 1 hts gL_join_X1_join rfl rfl rfl hdX1_join ⟨Nat.le_of_ble_eq_true rfl, Nat.le_of_ble_eq_true rfl⟩) hP hK hD hS hA hZ [0, 1, 2, 3, 4] (by decide) rfl (va_recv hK hP (ci := 1) (q0 := 0) rfl rfl) rfl hl.1 rfl (Nat.le_of_ble_eq_true rfl) dL_join_4 (Nat.le_of_ble_eq_true rfl) (Nat.le_of_ble_eq_true rfl) (own := RL) hown [⟨0, 9, 12, 19⟩] ⟨0, 9, 15, 21⟩ [] (by rw [htab]; rfl) (fun z hz => by obtain rfl := List.mem_singleton.mp hz; exact ⟨by decide, gIO, (hts (.classLink RL 19 "java/lang/IndexOutOfBoundsException") (List.mem_of_getElem? (i := 1) rfl)), by decide +kernel⟩) (by decide) (by decide) (hts (.classLink RL 21 "java/lang/IllegalStateException") (List.mem_of_getElem? (i := 2) rfl)) (List.mem_of_getElem? (i := 2) rfl) (fun q9 H locs hP hS => ?_)
  refine lv_astore_n (lv' := [(3, .ref q9), (0, .ref x0), (1, .int (nI 1)), (2, .ref o)]) hx hb dL_join_15 rfl hl (by decide) rfl (fun ls hl => ?_)
  refine lv_iconst (v := 2) hx hb dL_join_16 (by decide) ?_
  exact g_endMi hx hb hr hlocks hP hS dL_join_17 () rfl rfl trivial

abbrev mt_L_swap0_rm : Room := { frames := 3, cells := 0, slots := 0, locals := 66 }
set_option maxHeartbeats 4000000 in
set_option maxRecDepth 100000 in
theorem mt_L_swap0 (l : Launch) (htr : l.stackTraces = false) (dC : Nat → ClassId) (dI : Nat → Nat → Nat) (cA cL : ClassId) (sz : Nat) (x0 : Nat) (r0 : Nat) (r1 : Nat) (r2 : Nat) (r3 : Nat) (rn : Nat) (a0 : Nat) (L : List Int32) (f : Nat → Int32) (k : Nat) (o : Nat) (fo : Nat → Int64) (hR : RI L f) (hk : k + 1 < L.length) (hap : ¬ abI (abI (atL L k) - abI (atL L (k + 1))) < 2) : Met l yL_swap wsL_swap mt_L_swap0_rm (va_Pc [.ref x0, .int (nI 0), .int (nI k), .ref o] (gBT (dC, dI) [(cA, .int), (cL, .long)] [(x0, .inr (1, [.ref r0, .ref r1, .ref r2, .ref r3, .int (nI rn)])), (r0, .inr (0, [.ref a0, .int (nI L.length)])), (a0, .inl (cA, (100, .inl f))), (o, .inl (cL, (1, .inr (.inl fo))))] sz)) (gM (dC, dI) (some (.int 0)) (fun u : (Nat → Int32) => RI ((L.set k (atL L (k + 1))).set (k + 1) (atL L k)) u) (fun u : (Nat → Int32) => [(x0, .inr (1, [.ref r0, .ref r1, .ref r2, .ref r3, .int (nI rn)])), (r0, .inr (0, [.ref a0, .int (nI (((L.set k (atL L (k + 1))).set (k + 1) (atL L k)).length))])), (a0, .inl (cA, (100, .inl u))), (o, .inl (cL, (1, .inr (.inl (vp_updL fo 0 (atL L (k + 1)).toInt64)))))]) (va_A [(x0, .inr (1, [.ref r0, .ref r1, .ref r2, .ref r3, .int (nI rn)])), (r0, .inr (0, [.ref a0, .int (nI L.length)])), (a0, .inl (cA, (100, .inl f))), (o, .inl (cL, (1, .inr (.inl fo))))] sz)) 0 0 (va_A [(x0, .inr (1, [.ref r0, .ref r1, .ref r2, .ref r3, .int (nI rn)])), (r0, .inr (0, [.ref a0, .int (nI L.length)])), (a0, .inl (cA, (100, .inl f))), (o, .inl (cL, (1, .inr (.inl fo))))] sz) := by
  refine g_ofH (cc := cL_swap) (maxL := 5) (ret := (some .int)) (by decide) rfl (Nat.le_of_ble_eq_true rfl) (fun p e s m below meth c ls hx hb hr hml hts hown hlocks htab hP hKl hl A hA hD hS hZ => ?_)
  have hK : va_K (dC, dI) vwCl [(cA, .int)] s := hKl.sub [0] rfl
  have hl : lv_has ls 5 [(0, .ref x0), (1, .int (nI 0)), (2, .int (nI k)), (3, .ref o)] := hl
  refine lv_aload_n hx hb dL_swap_0 rfl (lv_at hl 3 rfl) ?_
  refine lv_iconst (v := 0) hx hb dL_swap_1 (by decide) ?_
  refine lv_aload_n hx hb dL_swap_2 rfl (lv_at hl 0 rfl) ?_
  refine lv_iload_n hx hb dL_swap_3 rfl (lv_at hl 1 rfl) ?_
  refine lv_iload_n hx hb dL_swap_4 rfl (lv_at hl 2 rfl) ?_
  refine g_MVi (As := [.int (nI 0), .int (nI k)]) (rest := [.int 0, .ref o]) ⟨hx, hb, hml, hown, hts⟩ (mt_X1_swap0 l dC dI cA s.heap.size x0 r0 r1 r2 r3 rn a0 L f k hR hk hap) (cwV 2 hts gL_swap_X1_swap rfl rfl rfl hdX1_swap ⟨Nat.le_of_ble_eq_true rfl, Nat.le_of_ble_eq_true rfl⟩) hP hK hD hS hA [0, 1, 2] (by decide) rfl (va_recv hK hP (ci := 1) (q0 := 0) rfl rfl) rfl hl.1 rfl (Nat.le_of_ble_eq_true rfl) dL_swap_5 (Nat.zero_le _) (Nat.zero_le _) (fun u9 => [(x0, .inr (1, [.ref r0, .ref r1, .ref r2, .ref r3, .int (nI rn)])), (r0, .inr (0, [.ref a0, .int (nI (((L.set k (atL L (k + 1))).set (k + 1) (atL L k)).length))])), (a0, .inl (cA, (100, .inl u9))), (o, .inl (cL, (1, .inr (.inl fo))))]) (fun _ => rfl) (fun _ => rfl) (fun u H locs hw_2 hP hD hS => ?_)
  obtain ⟨f1_1, rfl⟩ : ∃ z, z = u := ⟨_, rfl⟩
  have hw_2 : RI ((L.set k (atL L (k + 1))).set (k + 1) (atL L k)) f1_1 := hw_2
  have hP : va_P (dC, dI) vwCl [(x0, .inr (1, [.ref r0, .ref r1, .ref r2, .ref r3, .int (nI rn)])), (r0, .inr (0, [.ref a0, .int (nI (((L.set k (atL L (k + 1))).set (k + 1) (atL L k)).length))])), (a0, .inl (cA, (100, .inl f1_1))), (o, .inl (cL, (1, .inr (.inl fo))))] H := hP
  have hD : va_D A [(x0, .inr (1, [.ref r0, .ref r1, .ref r2, .ref r3, .int (nI rn)])), (r0, .inr (0, [.ref a0, .int (nI (((L.set k (atL L (k + 1))).set (k + 1) (atL L k)).length))])), (a0, .inl (cA, (100, .inl f1_1))), (o, .inl (cL, (1, .inr (.inl fo))))] := hD
  refine lv_i2l (v := (atL L (k + 1)).toInt64) hx hb dL_swap_8 rfl ?_
  refine va_last hx hb hKl hP hD hS 3 1 rfl rfl (vp_in_nI (n := 0) (by omega) (by decide)) dL_swap_9 (fun H locs hP hD hS => ?_)
  rw [show (0 : Int32).toNatClampNeg = 0 from by decide] at hP hD
  have hP : va_P (dC, dI) vwCl [(x0, .inr (1, [.ref r0, .ref r1, .ref r2, .ref r3, .int (nI rn)])), (r0, .inr (0, [.ref a0, .int (nI (((L.set k (atL L (k + 1))).set (k + 1) (atL L k)).length))])), (a0, .inl (cA, (100, .inl f1_1))), (o, .inl (cL, (1, .inr (.inl (vp_updL fo 0 ((atL L (k + 1)).toInt64))))))] H := hP
  have hD : va_D A [(x0, .inr (1, [.ref r0, .ref r1, .ref r2, .ref r3, .int (nI rn)])), (r0, .inr (0, [.ref a0, .int (nI (((L.set k (atL L (k + 1))).set (k + 1) (atL L k)).length))])), (a0, .inl (cA, (100, .inl f1_1))), (o, .inl (cL, (1, .inr (.inl (vp_updL fo 0 ((atL L (k + 1)).toInt64))))))] := hD
  refine lv_goto (tgt := 21) hx hb dL_swap_10 (by decide) ?_
  refine lv_iconst (v := 0) hx hb dL_swap_21 (by decide) ?_
  exact g_endMi hx hb hr hlocks hP hS dL_swap_22 (f1_1) rfl rfl hw_2

abbrev mt_L_swap1_rm : Room := { frames := 3, cells := 0, slots := 0, locals := 66 }
set_option maxHeartbeats 4000000 in
set_option maxRecDepth 100000 in
theorem mt_L_swap1 (l : Launch) (htr : l.stackTraces = false) (dC : Nat → ClassId) (dI : Nat → Nat → Nat) (cA cL : ClassId) (sz : Nat) (x0 : Nat) (r0 : Nat) (r1 : Nat) (r2 : Nat) (r3 : Nat) (rn : Nat) (a1 : Nat) (L : List Int32) (f : Nat → Int32) (k : Nat) (o : Nat) (fo : Nat → Int64) (hR : RI L f) (hk : k + 1 < L.length) (hap : ¬ abI (abI (atL L k) - abI (atL L (k + 1))) < 2) : Met l yL_swap wsL_swap mt_L_swap1_rm (va_Pc [.ref x0, .int (nI 1), .int (nI k), .ref o] (gBT (dC, dI) [(cA, .int), (cL, .long)] [(x0, .inr (1, [.ref r0, .ref r1, .ref r2, .ref r3, .int (nI rn)])), (r1, .inr (0, [.ref a1, .int (nI L.length)])), (a1, .inl (cA, (100, .inl f))), (o, .inl (cL, (1, .inr (.inl fo))))] sz)) (gM (dC, dI) (some (.int 0)) (fun u : (Nat → Int32) => RI ((L.set k (atL L (k + 1))).set (k + 1) (atL L k)) u) (fun u : (Nat → Int32) => [(x0, .inr (1, [.ref r0, .ref r1, .ref r2, .ref r3, .int (nI rn)])), (r1, .inr (0, [.ref a1, .int (nI (((L.set k (atL L (k + 1))).set (k + 1) (atL L k)).length))])), (a1, .inl (cA, (100, .inl u))), (o, .inl (cL, (1, .inr (.inl (vp_updL fo 0 (atL L (k + 1)).toInt64)))))]) (va_A [(x0, .inr (1, [.ref r0, .ref r1, .ref r2, .ref r3, .int (nI rn)])), (r1, .inr (0, [.ref a1, .int (nI L.length)])), (a1, .inl (cA, (100, .inl f))), (o, .inl (cL, (1, .inr (.inl fo))))] sz)) 0 0 (va_A [(x0, .inr (1, [.ref r0, .ref r1, .ref r2, .ref r3, .int (nI rn)])), (r1, .inr (0, [.ref a1, .int (nI L.length)])), (a1, .inl (cA, (100, .inl f))), (o, .inl (cL, (1, .inr (.inl fo))))] sz) := by
  refine g_ofH (cc := cL_swap) (maxL := 5) (ret := (some .int)) (by decide) rfl (Nat.le_of_ble_eq_true rfl) (fun p e s m below meth c ls hx hb hr hml hts hown hlocks htab hP hKl hl A hA hD hS hZ => ?_)
  have hK : va_K (dC, dI) vwCl [(cA, .int)] s := hKl.sub [0] rfl
  have hl : lv_has ls 5 [(0, .ref x0), (1, .int (nI 1)), (2, .int (nI k)), (3, .ref o)] := hl
  refine lv_aload_n hx hb dL_swap_0 rfl (lv_at hl 3 rfl) ?_
  refine lv_iconst (v := 0) hx hb dL_swap_1 (by decide) ?_
  refine lv_aload_n hx hb dL_swap_2 rfl (lv_at hl 0 rfl) ?_
  refine lv_iload_n hx hb dL_swap_3 rfl (lv_at hl 1 rfl) ?_
  refine lv_iload_n hx hb dL_swap_4 rfl (lv_at hl 2 rfl) ?_
  refine g_MVi (As := [.int (nI 1), .int (nI k)]) (rest := [.int 0, .ref o]) ⟨hx, hb, hml, hown, hts⟩ (mt_X1_swap1 l dC dI cA s.heap.size x0 r0 r1 r2 r3 rn a1 L f k hR hk hap) (cwV 2 hts gL_swap_X1_swap rfl rfl rfl hdX1_swap ⟨Nat.le_of_ble_eq_true rfl, Nat.le_of_ble_eq_true rfl⟩) hP hK hD hS hA [0, 1, 2] (by decide) rfl (va_recv hK hP (ci := 1) (q0 := 0) rfl rfl) rfl hl.1 rfl (Nat.le_of_ble_eq_true rfl) dL_swap_5 (Nat.zero_le _) (Nat.zero_le _) (fun u9 => [(x0, .inr (1, [.ref r0, .ref r1, .ref r2, .ref r3, .int (nI rn)])), (r1, .inr (0, [.ref a1, .int (nI (((L.set k (atL L (k + 1))).set (k + 1) (atL L k)).length))])), (a1, .inl (cA, (100, .inl u9))), (o, .inl (cL, (1, .inr (.inl fo))))]) (fun _ => rfl) (fun _ => rfl) (fun u H locs hw_2 hP hD hS => ?_)
  obtain ⟨f1_1, rfl⟩ : ∃ z, z = u := ⟨_, rfl⟩
  have hw_2 : RI ((L.set k (atL L (k + 1))).set (k + 1) (atL L k)) f1_1 := hw_2
  have hP : va_P (dC, dI) vwCl [(x0, .inr (1, [.ref r0, .ref r1, .ref r2, .ref r3, .int (nI rn)])), (r1, .inr (0, [.ref a1, .int (nI (((L.set k (atL L (k + 1))).set (k + 1) (atL L k)).length))])), (a1, .inl (cA, (100, .inl f1_1))), (o, .inl (cL, (1, .inr (.inl fo))))] H := hP
  have hD : va_D A [(x0, .inr (1, [.ref r0, .ref r1, .ref r2, .ref r3, .int (nI rn)])), (r1, .inr (0, [.ref a1, .int (nI (((L.set k (atL L (k + 1))).set (k + 1) (atL L k)).length))])), (a1, .inl (cA, (100, .inl f1_1))), (o, .inl (cL, (1, .inr (.inl fo))))] := hD
  refine lv_i2l (v := (atL L (k + 1)).toInt64) hx hb dL_swap_8 rfl ?_
  refine va_last hx hb hKl hP hD hS 3 1 rfl rfl (vp_in_nI (n := 0) (by omega) (by decide)) dL_swap_9 (fun H locs hP hD hS => ?_)
  rw [show (0 : Int32).toNatClampNeg = 0 from by decide] at hP hD
  have hP : va_P (dC, dI) vwCl [(x0, .inr (1, [.ref r0, .ref r1, .ref r2, .ref r3, .int (nI rn)])), (r1, .inr (0, [.ref a1, .int (nI (((L.set k (atL L (k + 1))).set (k + 1) (atL L k)).length))])), (a1, .inl (cA, (100, .inl f1_1))), (o, .inl (cL, (1, .inr (.inl (vp_updL fo 0 ((atL L (k + 1)).toInt64))))))] H := hP
  have hD : va_D A [(x0, .inr (1, [.ref r0, .ref r1, .ref r2, .ref r3, .int (nI rn)])), (r1, .inr (0, [.ref a1, .int (nI (((L.set k (atL L (k + 1))).set (k + 1) (atL L k)).length))])), (a1, .inl (cA, (100, .inl f1_1))), (o, .inl (cL, (1, .inr (.inl (vp_updL fo 0 ((atL L (k + 1)).toInt64))))))] := hD
  refine lv_goto (tgt := 21) hx hb dL_swap_10 (by decide) ?_
  refine lv_iconst (v := 0) hx hb dL_swap_21 (by decide) ?_
  exact g_endMi hx hb hr hlocks hP hS dL_swap_22 (f1_1) rfl rfl hw_2

abbrev mt_L_swap_1_rm : Room := { frames := 8, cells := 1, slots := 6, locals := 135 }
set_option maxHeartbeats 4000000 in
set_option maxRecDepth 100000 in
theorem mt_L_swap_1 (l : Launch) (htr : l.stackTraces = false) (dC : Nat → ClassId) (dI : Nat → Nat → Nat) (cA cL : ClassId) (sz : Nat) (x0 : Nat) (wd : Int32) (x : Int32) (r0 : Nat) (r1 : Nat) (r2 : Nat) (r3 : Nat) (R9 : Int32) (o : Nat) (fo : Nat → Int64) (hbad : wd < 0 ∨ 1 < wd) : Met l yL_swap wsL_swap mt_L_swap_1_rm (va_Pc [.ref x0, .int wd, .int x, .ref o] (gBT (dC, dI) [(cA, .int), (cL, .long)] [(x0, .inr (1, [.ref r0, .ref r1, .ref r2, .ref r3, .int R9])), (o, .inl (cL, (1, .inr (.inl fo))))] sz)) (gM (dC, dI) (some (.int 1)) (fun u : Unit => True) (fun u : Unit => [(x0, .inr (1, [.ref r0, .ref r1, .ref r2, .ref r3, .int R9])), (o, .inl (cL, (1, .inr (.inl fo))))]) (va_A [(x0, .inr (1, [.ref r0, .ref r1, .ref r2, .ref r3, .int R9])), (o, .inl (cL, (1, .inr (.inl fo))))] sz)) 1 6 (va_A [(x0, .inr (1, [.ref r0, .ref r1, .ref r2, .ref r3, .int R9])), (o, .inl (cL, (1, .inr (.inl fo))))] sz) := by
  refine g_ofH (cc := cL_swap) (maxL := 5) (ret := (some .int)) (by decide) rfl (Nat.le_of_ble_eq_true rfl) (fun p e s m below meth c ls hx hb hr hml hts hown hlocks htab hP hKl hl A hA hD hS hZ => ?_)
  have hK : va_K (dC, dI) vwCl [(cA, .int)] s := hKl.sub [0] rfl
  have hl : lv_has ls 5 [(0, .ref x0), (1, .int wd), (2, .int x), (3, .ref o)] := hl
  refine lv_aload_n hx hb dL_swap_0 rfl (lv_at hl 3 rfl) ?_
  refine lv_iconst (v := 0) hx hb dL_swap_1 (by decide) ?_
  refine lv_aload_n hx hb dL_swap_2 rfl (lv_at hl 0 rfl) ?_
  refine lv_iload_n hx hb dL_swap_3 rfl (lv_at hl 1 rfl) ?_
  refine lv_iload_n hx hb dL_swap_4 rfl (lv_at hl 2 rfl) ?_
  refine g_HT (As := [.int wd, .int x]) (rest := [.int 0, .ref o]) (E := gIO) ⟨hx, hb, hml, hown, hts⟩ (th_X1_swap_1 l htr dC dI cA s.heap.size x0 wd x hbad) (cwV 2 hts gL_swap_X1_swap rfl rfl rfl hdX1_swap ⟨Nat.le_of_ble_eq_true rfl, Nat.le_of_ble_eq_true rfl⟩) hP hK hD hS hA hZ [] (by decide) rfl (va_recv hK hP (ci := 1) (q0 := 0) rfl rfl) rfl hl.1 rfl (Nat.le_of_ble_eq_true rfl) dL_swap_5 (Nat.le_of_ble_eq_true rfl) (Nat.le_of_ble_eq_true rfl) (own := RL) hown [] ⟨0, 10, 13, 19⟩ [⟨0, 10, 17, 21⟩] (by rw [htab]; rfl) (fun z hz => absurd hz List.not_mem_nil) (by decide) (by decide) (hts (.classLink RL 19 "java/lang/IndexOutOfBoundsException") (List.mem_of_getElem? (i := 1) rfl)) (List.mem_of_getElem? (i := 1) rfl) (fun q9 H locs hP hS => ?_)
  refine lv_astore (lv' := [(4, .ref q9), (0, .ref x0), (1, .int wd), (2, .int x), (3, .ref o)]) hx hb dL_swap_13 hl (by decide) rfl (fun ls hl => ?_)
  refine lv_iconst (v := 1) hx hb dL_swap_15 (by decide) ?_
  exact g_endMi hx hb hr hlocks hP hS dL_swap_16 () rfl rfl trivial

abbrev mt_L_swap_1b_0_rm : Room := { frames := 8, cells := 1, slots := 6, locals := 136 }
set_option maxHeartbeats 4000000 in
set_option maxRecDepth 100000 in
theorem mt_L_swap_1b_0 (l : Launch) (htr : l.stackTraces = false) (dC : Nat → ClassId) (dI : Nat → Nat → Nat) (cA cL : ClassId) (sz : Nat) (x0 : Nat) (r0 : Nat) (r1 : Nat) (r2 : Nat) (r3 : Nat) (rn : Nat) (a0 : Nat) (L : List Int32) (f : Nat → Int32) (x : Int32) (o : Nat) (fo : Nat → Int64) (hR : RI L f) (hbad : x < 0 ∨ plI L.length ≤ x) : Met l yL_swap wsL_swap mt_L_swap_1b_0_rm (va_Pc [.ref x0, .int (nI 0), .int x, .ref o] (gBT (dC, dI) [(cA, .int), (cL, .long)] [(x0, .inr (1, [.ref r0, .ref r1, .ref r2, .ref r3, .int (nI rn)])), (r0, .inr (0, [.ref a0, .int (nI L.length)])), (a0, .inl (cA, (100, .inl f))), (o, .inl (cL, (1, .inr (.inl fo))))] sz)) (gM (dC, dI) (some (.int 1)) (fun u : Unit => True) (fun u : Unit => [(x0, .inr (1, [.ref r0, .ref r1, .ref r2, .ref r3, .int (nI rn)])), (r0, .inr (0, [.ref a0, .int (nI L.length)])), (a0, .inl (cA, (100, .inl f))), (o, .inl (cL, (1, .inr (.inl fo))))]) (va_A [(x0, .inr (1, [.ref r0, .ref r1, .ref r2, .ref r3, .int (nI rn)])), (r0, .inr (0, [.ref a0, .int (nI L.length)])), (a0, .inl (cA, (100, .inl f))), (o, .inl (cL, (1, .inr (.inl fo))))] sz)) 1 6 (va_A [(x0, .inr (1, [.ref r0, .ref r1, .ref r2, .ref r3, .int (nI rn)])), (r0, .inr (0, [.ref a0, .int (nI L.length)])), (a0, .inl (cA, (100, .inl f))), (o, .inl (cL, (1, .inr (.inl fo))))] sz) := by
  refine g_ofH (cc := cL_swap) (maxL := 5) (ret := (some .int)) (by decide) rfl (Nat.le_of_ble_eq_true rfl) (fun p e s m below meth c ls hx hb hr hml hts hown hlocks htab hP hKl hl A hA hD hS hZ => ?_)
  have hK : va_K (dC, dI) vwCl [(cA, .int)] s := hKl.sub [0] rfl
  have hl : lv_has ls 5 [(0, .ref x0), (1, .int (nI 0)), (2, .int x), (3, .ref o)] := hl
  refine lv_aload_n hx hb dL_swap_0 rfl (lv_at hl 3 rfl) ?_
  refine lv_iconst (v := 0) hx hb dL_swap_1 (by decide) ?_
  refine lv_aload_n hx hb dL_swap_2 rfl (lv_at hl 0 rfl) ?_
  refine lv_iload_n hx hb dL_swap_3 rfl (lv_at hl 1 rfl) ?_
  refine lv_iload_n hx hb dL_swap_4 rfl (lv_at hl 2 rfl) ?_
  refine g_HT (As := [.int (nI 0), .int x]) (rest := [.int 0, .ref o]) (E := gIO) ⟨hx, hb, hml, hown, hts⟩ (th_X1_swap_1b_0 l htr dC dI cA s.heap.size x0 r0 r1 r2 r3 rn a0 L f x hR hbad) (cwV 2 hts gL_swap_X1_swap rfl rfl rfl hdX1_swap ⟨Nat.le_of_ble_eq_true rfl, Nat.le_of_ble_eq_true rfl⟩) hP hK hD hS hA hZ [0, 1, 2] (by decide) rfl (va_recv hK hP (ci := 1) (q0 := 0) rfl rfl) rfl hl.1 rfl (Nat.le_of_ble_eq_true rfl) dL_swap_5 (Nat.le_of_ble_eq_true rfl) (Nat.le_of_ble_eq_true rfl) (own := RL) hown [] ⟨0, 10, 13, 19⟩ [⟨0, 10, 17, 21⟩] (by rw [htab]; rfl) (fun z hz => absurd hz List.not_mem_nil) (by decide) (by decide) (hts (.classLink RL 19 "java/lang/IndexOutOfBoundsException") (List.mem_of_getElem? (i := 1) rfl)) (List.mem_of_getElem? (i := 1) rfl) (fun q9 H locs hP hS => ?_)
  refine lv_astore (lv' := [(4, .ref q9), (0, .ref x0), (1, .int (nI 0)), (2, .int x), (3, .ref o)]) hx hb dL_swap_13 hl (by decide) rfl (fun ls hl => ?_)
  refine lv_iconst (v := 1) hx hb dL_swap_15 (by decide) ?_
  exact g_endMi hx hb hr hlocks hP hS dL_swap_16 () rfl rfl trivial

abbrev mt_L_swap_2_0_rm : Room := { frames := 7, cells := 1, slots := 6, locals := 115 }
set_option maxHeartbeats 4000000 in
set_option maxRecDepth 100000 in
theorem mt_L_swap_2_0 (l : Launch) (htr : l.stackTraces = false) (dC : Nat → ClassId) (dI : Nat → Nat → Nat) (cA cL : ClassId) (sz : Nat) (x0 : Nat) (r0 : Nat) (r1 : Nat) (r2 : Nat) (r3 : Nat) (rn : Nat) (a0 : Nat) (L : List Int32) (f : Nat → Int32) (k : Nat) (o : Nat) (fo : Nat → Int64) (hR : RI L f) (hk : k + 1 < L.length) (hap : abI (abI (atL L k) - abI (atL L (k + 1))) < 2) : Met l yL_swap wsL_swap mt_L_swap_2_0_rm (va_Pc [.ref x0, .int (nI 0), .int (nI k), .ref o] (gBT (dC, dI) [(cA, .int), (cL, .long)] [(x0, .inr (1, [.ref r0, .ref r1, .ref r2, .ref r3, .int (nI rn)])), (r0, .inr (0, [.ref a0, .int (nI L.length)])), (a0, .inl (cA, (100, .inl f))), (o, .inl (cL, (1, .inr (.inl fo))))] sz)) (gM (dC, dI) (some (.int 2)) (fun u : Unit => True) (fun u : Unit => [(x0, .inr (1, [.ref r0, .ref r1, .ref r2, .ref r3, .int (nI rn)])), (r0, .inr (0, [.ref a0, .int (nI L.length)])), (a0, .inl (cA, (100, .inl f))), (o, .inl (cL, (1, .inr (.inl fo))))]) (va_A [(x0, .inr (1, [.ref r0, .ref r1, .ref r2, .ref r3, .int (nI rn)])), (r0, .inr (0, [.ref a0, .int (nI L.length)])), (a0, .inl (cA, (100, .inl f))), (o, .inl (cL, (1, .inr (.inl fo))))] sz)) 1 6 (va_A [(x0, .inr (1, [.ref r0, .ref r1, .ref r2, .ref r3, .int (nI rn)])), (r0, .inr (0, [.ref a0, .int (nI L.length)])), (a0, .inl (cA, (100, .inl f))), (o, .inl (cL, (1, .inr (.inl fo))))] sz) := by
  refine g_ofH (cc := cL_swap) (maxL := 5) (ret := (some .int)) (by decide) rfl (Nat.le_of_ble_eq_true rfl) (fun p e s m below meth c ls hx hb hr hml hts hown hlocks htab hP hKl hl A hA hD hS hZ => ?_)
  have hK : va_K (dC, dI) vwCl [(cA, .int)] s := hKl.sub [0] rfl
  have hl : lv_has ls 5 [(0, .ref x0), (1, .int (nI 0)), (2, .int (nI k)), (3, .ref o)] := hl
  refine lv_aload_n hx hb dL_swap_0 rfl (lv_at hl 3 rfl) ?_
  refine lv_iconst (v := 0) hx hb dL_swap_1 (by decide) ?_
  refine lv_aload_n hx hb dL_swap_2 rfl (lv_at hl 0 rfl) ?_
  refine lv_iload_n hx hb dL_swap_3 rfl (lv_at hl 1 rfl) ?_
  refine lv_iload_n hx hb dL_swap_4 rfl (lv_at hl 2 rfl) ?_
  refine g_HT (As := [.int (nI 0), .int (nI k)]) (rest := [.int 0, .ref o]) (E := gIS) ⟨hx, hb, hml, hown, hts⟩ (th_X1_swap_2_0 l htr dC dI cA s.heap.size x0 r0 r1 r2 r3 rn a0 L f k hR hk hap) (cwV 2 hts gL_swap_X1_swap rfl rfl rfl hdX1_swap ⟨Nat.le_of_ble_eq_true rfl, Nat.le_of_ble_eq_true rfl⟩) hP hK hD hS hA hZ [0, 1, 2] (by decide) rfl (va_recv hK hP (ci := 1) (q0 := 0) rfl rfl) rfl hl.1 rfl (Nat.le_of_ble_eq_true rfl) dL_swap_5 (Nat.le_of_ble_eq_true rfl) (Nat.le_of_ble_eq_true rfl) (own := RL) hown [⟨0, 10, 13, 19⟩] ⟨0, 10, 17, 21⟩ [] (by rw [htab]; rfl) (fun z hz => by obtain rfl := List.mem_singleton.mp hz; exact ⟨by decide, gIO, (hts (.classLink RL 19 "java/lang/IndexOutOfBoundsException") (List.mem_of_getElem? (i := 1) rfl)), by decide +kernel⟩) (by decide) (by decide) (hts (.classLink RL 21 "java/lang/IllegalStateException") (List.mem_of_getElem? (i := 2) rfl)) (List.mem_of_getElem? (i := 2) rfl) (fun q9 H locs hP hS => ?_)
  refine lv_astore (lv' := [(4, .ref q9), (0, .ref x0), (1, .int (nI 0)), (2, .int (nI k)), (3, .ref o)]) hx hb dL_swap_17 hl (by decide) rfl (fun ls hl => ?_)
  refine lv_iconst (v := 2) hx hb dL_swap_19 (by decide) ?_
  exact g_endMi hx hb hr hlocks hP hS dL_swap_20 () rfl rfl trivial

abbrev mt_L_swap_1b_1_rm : Room := { frames := 8, cells := 1, slots := 6, locals := 136 }
set_option maxHeartbeats 4000000 in
set_option maxRecDepth 100000 in
theorem mt_L_swap_1b_1 (l : Launch) (htr : l.stackTraces = false) (dC : Nat → ClassId) (dI : Nat → Nat → Nat) (cA cL : ClassId) (sz : Nat) (x0 : Nat) (r0 : Nat) (r1 : Nat) (r2 : Nat) (r3 : Nat) (rn : Nat) (a1 : Nat) (L : List Int32) (f : Nat → Int32) (x : Int32) (o : Nat) (fo : Nat → Int64) (hR : RI L f) (hbad : x < 0 ∨ plI L.length ≤ x) : Met l yL_swap wsL_swap mt_L_swap_1b_1_rm (va_Pc [.ref x0, .int (nI 1), .int x, .ref o] (gBT (dC, dI) [(cA, .int), (cL, .long)] [(x0, .inr (1, [.ref r0, .ref r1, .ref r2, .ref r3, .int (nI rn)])), (r1, .inr (0, [.ref a1, .int (nI L.length)])), (a1, .inl (cA, (100, .inl f))), (o, .inl (cL, (1, .inr (.inl fo))))] sz)) (gM (dC, dI) (some (.int 1)) (fun u : Unit => True) (fun u : Unit => [(x0, .inr (1, [.ref r0, .ref r1, .ref r2, .ref r3, .int (nI rn)])), (r1, .inr (0, [.ref a1, .int (nI L.length)])), (a1, .inl (cA, (100, .inl f))), (o, .inl (cL, (1, .inr (.inl fo))))]) (va_A [(x0, .inr (1, [.ref r0, .ref r1, .ref r2, .ref r3, .int (nI rn)])), (r1, .inr (0, [.ref a1, .int (nI L.length)])), (a1, .inl (cA, (100, .inl f))), (o, .inl (cL, (1, .inr (.inl fo))))] sz)) 1 6 (va_A [(x0, .inr (1, [.ref r0, .ref r1, .ref r2, .ref r3, .int (nI rn)])), (r1, .inr (0, [.ref a1, .int (nI L.length)])), (a1, .inl (cA, (100, .inl f))), (o, .inl (cL, (1, .inr (.inl fo))))] sz) := by
  refine g_ofH (cc := cL_swap) (maxL := 5) (ret := (some .int)) (by decide) rfl (Nat.le_of_ble_eq_true rfl) (fun p e s m below meth c ls hx hb hr hml hts hown hlocks htab hP hKl hl A hA hD hS hZ => ?_)
  have hK : va_K (dC, dI) vwCl [(cA, .int)] s := hKl.sub [0] rfl
  have hl : lv_has ls 5 [(0, .ref x0), (1, .int (nI 1)), (2, .int x), (3, .ref o)] := hl
  refine lv_aload_n hx hb dL_swap_0 rfl (lv_at hl 3 rfl) ?_
  refine lv_iconst (v := 0) hx hb dL_swap_1 (by decide) ?_
  refine lv_aload_n hx hb dL_swap_2 rfl (lv_at hl 0 rfl) ?_
  refine lv_iload_n hx hb dL_swap_3 rfl (lv_at hl 1 rfl) ?_
  refine lv_iload_n hx hb dL_swap_4 rfl (lv_at hl 2 rfl) ?_
  refine g_HT (As := [.int (nI 1), .int x]) (rest := [.int 0, .ref o]) (E := gIO) ⟨hx, hb, hml, hown, hts⟩ (th_X1_swap_1b_1 l htr dC dI cA s.heap.size x0 r0 r1 r2 r3 rn a1 L f x hR hbad) (cwV 2 hts gL_swap_X1_swap rfl rfl rfl hdX1_swap ⟨Nat.le_of_ble_eq_true rfl, Nat.le_of_ble_eq_true rfl⟩) hP hK hD hS hA hZ [0, 1, 2] (by decide) rfl (va_recv hK hP (ci := 1) (q0 := 0) rfl rfl) rfl hl.1 rfl (Nat.le_of_ble_eq_true rfl) dL_swap_5 (Nat.le_of_ble_eq_true rfl) (Nat.le_of_ble_eq_true rfl) (own := RL) hown [] ⟨0, 10, 13, 19⟩ [⟨0, 10, 17, 21⟩] (by rw [htab]; rfl) (fun z hz => absurd hz List.not_mem_nil) (by decide) (by decide) (hts (.classLink RL 19 "java/lang/IndexOutOfBoundsException") (List.mem_of_getElem? (i := 1) rfl)) (List.mem_of_getElem? (i := 1) rfl) (fun q9 H locs hP hS => ?_)
  refine lv_astore (lv' := [(4, .ref q9), (0, .ref x0), (1, .int (nI 1)), (2, .int x), (3, .ref o)]) hx hb dL_swap_13 hl (by decide) rfl (fun ls hl => ?_)
  refine lv_iconst (v := 1) hx hb dL_swap_15 (by decide) ?_
  exact g_endMi hx hb hr hlocks hP hS dL_swap_16 () rfl rfl trivial

abbrev mt_L_swap_2_1_rm : Room := { frames := 7, cells := 1, slots := 6, locals := 115 }
set_option maxHeartbeats 4000000 in
set_option maxRecDepth 100000 in
theorem mt_L_swap_2_1 (l : Launch) (htr : l.stackTraces = false) (dC : Nat → ClassId) (dI : Nat → Nat → Nat) (cA cL : ClassId) (sz : Nat) (x0 : Nat) (r0 : Nat) (r1 : Nat) (r2 : Nat) (r3 : Nat) (rn : Nat) (a1 : Nat) (L : List Int32) (f : Nat → Int32) (k : Nat) (o : Nat) (fo : Nat → Int64) (hR : RI L f) (hk : k + 1 < L.length) (hap : abI (abI (atL L k) - abI (atL L (k + 1))) < 2) : Met l yL_swap wsL_swap mt_L_swap_2_1_rm (va_Pc [.ref x0, .int (nI 1), .int (nI k), .ref o] (gBT (dC, dI) [(cA, .int), (cL, .long)] [(x0, .inr (1, [.ref r0, .ref r1, .ref r2, .ref r3, .int (nI rn)])), (r1, .inr (0, [.ref a1, .int (nI L.length)])), (a1, .inl (cA, (100, .inl f))), (o, .inl (cL, (1, .inr (.inl fo))))] sz)) (gM (dC, dI) (some (.int 2)) (fun u : Unit => True) (fun u : Unit => [(x0, .inr (1, [.ref r0, .ref r1, .ref r2, .ref r3, .int (nI rn)])), (r1, .inr (0, [.ref a1, .int (nI L.length)])), (a1, .inl (cA, (100, .inl f))), (o, .inl (cL, (1, .inr (.inl fo))))]) (va_A [(x0, .inr (1, [.ref r0, .ref r1, .ref r2, .ref r3, .int (nI rn)])), (r1, .inr (0, [.ref a1, .int (nI L.length)])), (a1, .inl (cA, (100, .inl f))), (o, .inl (cL, (1, .inr (.inl fo))))] sz)) 1 6 (va_A [(x0, .inr (1, [.ref r0, .ref r1, .ref r2, .ref r3, .int (nI rn)])), (r1, .inr (0, [.ref a1, .int (nI L.length)])), (a1, .inl (cA, (100, .inl f))), (o, .inl (cL, (1, .inr (.inl fo))))] sz) := by
  refine g_ofH (cc := cL_swap) (maxL := 5) (ret := (some .int)) (by decide) rfl (Nat.le_of_ble_eq_true rfl) (fun p e s m below meth c ls hx hb hr hml hts hown hlocks htab hP hKl hl A hA hD hS hZ => ?_)
  have hK : va_K (dC, dI) vwCl [(cA, .int)] s := hKl.sub [0] rfl
  have hl : lv_has ls 5 [(0, .ref x0), (1, .int (nI 1)), (2, .int (nI k)), (3, .ref o)] := hl
  refine lv_aload_n hx hb dL_swap_0 rfl (lv_at hl 3 rfl) ?_
  refine lv_iconst (v := 0) hx hb dL_swap_1 (by decide) ?_
  refine lv_aload_n hx hb dL_swap_2 rfl (lv_at hl 0 rfl) ?_
  refine lv_iload_n hx hb dL_swap_3 rfl (lv_at hl 1 rfl) ?_
  refine lv_iload_n hx hb dL_swap_4 rfl (lv_at hl 2 rfl) ?_
  refine g_HT (As := [.int (nI 1), .int (nI k)]) (rest := [.int 0, .ref o]) (E := gIS) ⟨hx, hb, hml, hown, hts⟩ (th_X1_swap_2_1 l htr dC dI cA s.heap.size x0 r0 r1 r2 r3 rn a1 L f k hR hk hap) (cwV 2 hts gL_swap_X1_swap rfl rfl rfl hdX1_swap ⟨Nat.le_of_ble_eq_true rfl, Nat.le_of_ble_eq_true rfl⟩) hP hK hD hS hA hZ [0, 1, 2] (by decide) rfl (va_recv hK hP (ci := 1) (q0 := 0) rfl rfl) rfl hl.1 rfl (Nat.le_of_ble_eq_true rfl) dL_swap_5 (Nat.le_of_ble_eq_true rfl) (Nat.le_of_ble_eq_true rfl) (own := RL) hown [⟨0, 10, 13, 19⟩] ⟨0, 10, 17, 21⟩ [] (by rw [htab]; rfl) (fun z hz => by obtain rfl := List.mem_singleton.mp hz; exact ⟨by decide, gIO, (hts (.classLink RL 19 "java/lang/IndexOutOfBoundsException") (List.mem_of_getElem? (i := 1) rfl)), by decide +kernel⟩) (by decide) (by decide) (hts (.classLink RL 21 "java/lang/IllegalStateException") (List.mem_of_getElem? (i := 2) rfl)) (List.mem_of_getElem? (i := 2) rfl) (fun q9 H locs hP hS => ?_)
  refine lv_astore (lv' := [(4, .ref q9), (0, .ref x0), (1, .int (nI 1)), (2, .int (nI k)), (3, .ref o)]) hx hb dL_swap_17 hl (by decide) rfl (fun ls hl => ?_)
  refine lv_iconst (v := 2) hx hb dL_swap_19 (by decide) ?_
  exact g_endMi hx hb hr hlocks hP hS dL_swap_20 () rfl rfl trivial

abbrev mt_L_about0_rm : Room := { frames := 3, cells := 0, slots := 0, locals := 66 }
set_option maxHeartbeats 4000000 in
set_option maxRecDepth 100000 in
theorem mt_L_about0 (l : Launch) (htr : l.stackTraces = false) (dC : Nat → ClassId) (dI : Nat → Nat → Nat) (cA cL : ClassId) (sz : Nat) (x0 : Nat) (r0 : Nat) (r1 : Nat) (r2 : Nat) (r3 : Nat) (rn : Nat) (a0 : Nat) (L : List Int32) (f : Nat → Int32) (k : Nat) (o : Nat) (fo : Nat → Int64) (hR : RI L f) (hk : k + 2 < L.length) (ha1 : atL L (k + 2) = atL L k) (ha2 : sgI (atL L (k + 1)) = sgI (atL L k)) (ha3 : abI (abI (atL L (k + 1)) - abI (atL L k)) = 1) : Met l yL_about wsL_about mt_L_about0_rm (va_Pc [.ref x0, .int (nI 0), .int (nI k), .ref o] (gBT (dC, dI) [(cA, .int), (cL, .long)] [(x0, .inr (1, [.ref r0, .ref r1, .ref r2, .ref r3, .int (nI rn)])), (r0, .inr (0, [.ref a0, .int (nI L.length)])), (a0, .inl (cA, (100, .inl f))), (o, .inl (cL, (1, .inr (.inl fo))))] sz)) (gM (dC, dI) (some (.int 0)) (fun u : (Nat → Int32) => RI (((L.set k (atL L (k + 1))).set (k + 1) (atL L k)).set (k + 2) (atL L (k + 1))) u) (fun u : (Nat → Int32) => [(x0, .inr (1, [.ref r0, .ref r1, .ref r2, .ref r3, .int (nI rn)])), (r0, .inr (0, [.ref a0, .int (nI ((((L.set k (atL L (k + 1))).set (k + 1) (atL L k)).set (k + 2) (atL L (k + 1))).length))])), (a0, .inl (cA, (100, .inl u))), (o, .inl (cL, (1, .inr (.inl (vp_updL fo 0 (atL L (k + 1)).toInt64)))))]) (va_A [(x0, .inr (1, [.ref r0, .ref r1, .ref r2, .ref r3, .int (nI rn)])), (r0, .inr (0, [.ref a0, .int (nI L.length)])), (a0, .inl (cA, (100, .inl f))), (o, .inl (cL, (1, .inr (.inl fo))))] sz)) 0 0 (va_A [(x0, .inr (1, [.ref r0, .ref r1, .ref r2, .ref r3, .int (nI rn)])), (r0, .inr (0, [.ref a0, .int (nI L.length)])), (a0, .inl (cA, (100, .inl f))), (o, .inl (cL, (1, .inr (.inl fo))))] sz) := by
  refine g_ofH (cc := cL_about) (maxL := 5) (ret := (some .int)) (by decide) rfl (Nat.le_of_ble_eq_true rfl) (fun p e s m below meth c ls hx hb hr hml hts hown hlocks htab hP hKl hl A hA hD hS hZ => ?_)
  have hK : va_K (dC, dI) vwCl [(cA, .int)] s := hKl.sub [0] rfl
  have hl : lv_has ls 5 [(0, .ref x0), (1, .int (nI 0)), (2, .int (nI k)), (3, .ref o)] := hl
  refine lv_aload_n hx hb dL_about_0 rfl (lv_at hl 3 rfl) ?_
  refine lv_iconst (v := 0) hx hb dL_about_1 (by decide) ?_
  refine lv_aload_n hx hb dL_about_2 rfl (lv_at hl 0 rfl) ?_
  refine lv_iload_n hx hb dL_about_3 rfl (lv_at hl 1 rfl) ?_
  refine lv_iload_n hx hb dL_about_4 rfl (lv_at hl 2 rfl) ?_
  refine g_MVi (As := [.int (nI 0), .int (nI k)]) (rest := [.int 0, .ref o]) ⟨hx, hb, hml, hown, hts⟩ (mt_X1_about0 l dC dI cA s.heap.size x0 r0 r1 r2 r3 rn a0 L f k hR hk ha1 ha2 ha3) (cwV 2 hts gL_about_X1_about rfl rfl rfl hdX1_about ⟨Nat.le_of_ble_eq_true rfl, Nat.le_of_ble_eq_true rfl⟩) hP hK hD hS hA [0, 1, 2] (by decide) rfl (va_recv hK hP (ci := 1) (q0 := 0) rfl rfl) rfl hl.1 rfl (Nat.le_of_ble_eq_true rfl) dL_about_5 (Nat.zero_le _) (Nat.zero_le _) (fun u9 => [(x0, .inr (1, [.ref r0, .ref r1, .ref r2, .ref r3, .int (nI rn)])), (r0, .inr (0, [.ref a0, .int (nI ((((L.set k (atL L (k + 1))).set (k + 1) (atL L k)).set (k + 2) (atL L (k + 1))).length))])), (a0, .inl (cA, (100, .inl u9))), (o, .inl (cL, (1, .inr (.inl fo))))]) (fun _ => rfl) (fun _ => rfl) (fun u H locs hw_2 hP hD hS => ?_)
  obtain ⟨f1_1, rfl⟩ : ∃ z, z = u := ⟨_, rfl⟩
  have hw_2 : RI (((L.set k (atL L (k + 1))).set (k + 1) (atL L k)).set (k + 2) (atL L (k + 1))) f1_1 := hw_2
  have hP : va_P (dC, dI) vwCl [(x0, .inr (1, [.ref r0, .ref r1, .ref r2, .ref r3, .int (nI rn)])), (r0, .inr (0, [.ref a0, .int (nI ((((L.set k (atL L (k + 1))).set (k + 1) (atL L k)).set (k + 2) (atL L (k + 1))).length))])), (a0, .inl (cA, (100, .inl f1_1))), (o, .inl (cL, (1, .inr (.inl fo))))] H := hP
  have hD : va_D A [(x0, .inr (1, [.ref r0, .ref r1, .ref r2, .ref r3, .int (nI rn)])), (r0, .inr (0, [.ref a0, .int (nI ((((L.set k (atL L (k + 1))).set (k + 1) (atL L k)).set (k + 2) (atL L (k + 1))).length))])), (a0, .inl (cA, (100, .inl f1_1))), (o, .inl (cL, (1, .inr (.inl fo))))] := hD
  refine lv_i2l (v := (atL L (k + 1)).toInt64) hx hb dL_about_8 rfl ?_
  refine va_last hx hb hKl hP hD hS 3 1 rfl rfl (vp_in_nI (n := 0) (by omega) (by decide)) dL_about_9 (fun H locs hP hD hS => ?_)
  rw [show (0 : Int32).toNatClampNeg = 0 from by decide] at hP hD
  have hP : va_P (dC, dI) vwCl [(x0, .inr (1, [.ref r0, .ref r1, .ref r2, .ref r3, .int (nI rn)])), (r0, .inr (0, [.ref a0, .int (nI ((((L.set k (atL L (k + 1))).set (k + 1) (atL L k)).set (k + 2) (atL L (k + 1))).length))])), (a0, .inl (cA, (100, .inl f1_1))), (o, .inl (cL, (1, .inr (.inl (vp_updL fo 0 ((atL L (k + 1)).toInt64))))))] H := hP
  have hD : va_D A [(x0, .inr (1, [.ref r0, .ref r1, .ref r2, .ref r3, .int (nI rn)])), (r0, .inr (0, [.ref a0, .int (nI ((((L.set k (atL L (k + 1))).set (k + 1) (atL L k)).set (k + 2) (atL L (k + 1))).length))])), (a0, .inl (cA, (100, .inl f1_1))), (o, .inl (cL, (1, .inr (.inl (vp_updL fo 0 ((atL L (k + 1)).toInt64))))))] := hD
  refine lv_goto (tgt := 21) hx hb dL_about_10 (by decide) ?_
  refine lv_iconst (v := 0) hx hb dL_about_21 (by decide) ?_
  exact g_endMi hx hb hr hlocks hP hS dL_about_22 (f1_1) rfl rfl hw_2

abbrev mt_L_about1_rm : Room := { frames := 3, cells := 0, slots := 0, locals := 66 }
set_option maxHeartbeats 4000000 in
set_option maxRecDepth 100000 in
theorem mt_L_about1 (l : Launch) (htr : l.stackTraces = false) (dC : Nat → ClassId) (dI : Nat → Nat → Nat) (cA cL : ClassId) (sz : Nat) (x0 : Nat) (r0 : Nat) (r1 : Nat) (r2 : Nat) (r3 : Nat) (rn : Nat) (a1 : Nat) (L : List Int32) (f : Nat → Int32) (k : Nat) (o : Nat) (fo : Nat → Int64) (hR : RI L f) (hk : k + 2 < L.length) (ha1 : atL L (k + 2) = atL L k) (ha2 : sgI (atL L (k + 1)) = sgI (atL L k)) (ha3 : abI (abI (atL L (k + 1)) - abI (atL L k)) = 1) : Met l yL_about wsL_about mt_L_about1_rm (va_Pc [.ref x0, .int (nI 1), .int (nI k), .ref o] (gBT (dC, dI) [(cA, .int), (cL, .long)] [(x0, .inr (1, [.ref r0, .ref r1, .ref r2, .ref r3, .int (nI rn)])), (r1, .inr (0, [.ref a1, .int (nI L.length)])), (a1, .inl (cA, (100, .inl f))), (o, .inl (cL, (1, .inr (.inl fo))))] sz)) (gM (dC, dI) (some (.int 0)) (fun u : (Nat → Int32) => RI (((L.set k (atL L (k + 1))).set (k + 1) (atL L k)).set (k + 2) (atL L (k + 1))) u) (fun u : (Nat → Int32) => [(x0, .inr (1, [.ref r0, .ref r1, .ref r2, .ref r3, .int (nI rn)])), (r1, .inr (0, [.ref a1, .int (nI ((((L.set k (atL L (k + 1))).set (k + 1) (atL L k)).set (k + 2) (atL L (k + 1))).length))])), (a1, .inl (cA, (100, .inl u))), (o, .inl (cL, (1, .inr (.inl (vp_updL fo 0 (atL L (k + 1)).toInt64)))))]) (va_A [(x0, .inr (1, [.ref r0, .ref r1, .ref r2, .ref r3, .int (nI rn)])), (r1, .inr (0, [.ref a1, .int (nI L.length)])), (a1, .inl (cA, (100, .inl f))), (o, .inl (cL, (1, .inr (.inl fo))))] sz)) 0 0 (va_A [(x0, .inr (1, [.ref r0, .ref r1, .ref r2, .ref r3, .int (nI rn)])), (r1, .inr (0, [.ref a1, .int (nI L.length)])), (a1, .inl (cA, (100, .inl f))), (o, .inl (cL, (1, .inr (.inl fo))))] sz) := by
  refine g_ofH (cc := cL_about) (maxL := 5) (ret := (some .int)) (by decide) rfl (Nat.le_of_ble_eq_true rfl) (fun p e s m below meth c ls hx hb hr hml hts hown hlocks htab hP hKl hl A hA hD hS hZ => ?_)
  have hK : va_K (dC, dI) vwCl [(cA, .int)] s := hKl.sub [0] rfl
  have hl : lv_has ls 5 [(0, .ref x0), (1, .int (nI 1)), (2, .int (nI k)), (3, .ref o)] := hl
  refine lv_aload_n hx hb dL_about_0 rfl (lv_at hl 3 rfl) ?_
  refine lv_iconst (v := 0) hx hb dL_about_1 (by decide) ?_
  refine lv_aload_n hx hb dL_about_2 rfl (lv_at hl 0 rfl) ?_
  refine lv_iload_n hx hb dL_about_3 rfl (lv_at hl 1 rfl) ?_
  refine lv_iload_n hx hb dL_about_4 rfl (lv_at hl 2 rfl) ?_
  refine g_MVi (As := [.int (nI 1), .int (nI k)]) (rest := [.int 0, .ref o]) ⟨hx, hb, hml, hown, hts⟩ (mt_X1_about1 l dC dI cA s.heap.size x0 r0 r1 r2 r3 rn a1 L f k hR hk ha1 ha2 ha3) (cwV 2 hts gL_about_X1_about rfl rfl rfl hdX1_about ⟨Nat.le_of_ble_eq_true rfl, Nat.le_of_ble_eq_true rfl⟩) hP hK hD hS hA [0, 1, 2] (by decide) rfl (va_recv hK hP (ci := 1) (q0 := 0) rfl rfl) rfl hl.1 rfl (Nat.le_of_ble_eq_true rfl) dL_about_5 (Nat.zero_le _) (Nat.zero_le _) (fun u9 => [(x0, .inr (1, [.ref r0, .ref r1, .ref r2, .ref r3, .int (nI rn)])), (r1, .inr (0, [.ref a1, .int (nI ((((L.set k (atL L (k + 1))).set (k + 1) (atL L k)).set (k + 2) (atL L (k + 1))).length))])), (a1, .inl (cA, (100, .inl u9))), (o, .inl (cL, (1, .inr (.inl fo))))]) (fun _ => rfl) (fun _ => rfl) (fun u H locs hw_2 hP hD hS => ?_)
  obtain ⟨f1_1, rfl⟩ : ∃ z, z = u := ⟨_, rfl⟩
  have hw_2 : RI (((L.set k (atL L (k + 1))).set (k + 1) (atL L k)).set (k + 2) (atL L (k + 1))) f1_1 := hw_2
  have hP : va_P (dC, dI) vwCl [(x0, .inr (1, [.ref r0, .ref r1, .ref r2, .ref r3, .int (nI rn)])), (r1, .inr (0, [.ref a1, .int (nI ((((L.set k (atL L (k + 1))).set (k + 1) (atL L k)).set (k + 2) (atL L (k + 1))).length))])), (a1, .inl (cA, (100, .inl f1_1))), (o, .inl (cL, (1, .inr (.inl fo))))] H := hP
  have hD : va_D A [(x0, .inr (1, [.ref r0, .ref r1, .ref r2, .ref r3, .int (nI rn)])), (r1, .inr (0, [.ref a1, .int (nI ((((L.set k (atL L (k + 1))).set (k + 1) (atL L k)).set (k + 2) (atL L (k + 1))).length))])), (a1, .inl (cA, (100, .inl f1_1))), (o, .inl (cL, (1, .inr (.inl fo))))] := hD
  refine lv_i2l (v := (atL L (k + 1)).toInt64) hx hb dL_about_8 rfl ?_
  refine va_last hx hb hKl hP hD hS 3 1 rfl rfl (vp_in_nI (n := 0) (by omega) (by decide)) dL_about_9 (fun H locs hP hD hS => ?_)
  rw [show (0 : Int32).toNatClampNeg = 0 from by decide] at hP hD
  have hP : va_P (dC, dI) vwCl [(x0, .inr (1, [.ref r0, .ref r1, .ref r2, .ref r3, .int (nI rn)])), (r1, .inr (0, [.ref a1, .int (nI ((((L.set k (atL L (k + 1))).set (k + 1) (atL L k)).set (k + 2) (atL L (k + 1))).length))])), (a1, .inl (cA, (100, .inl f1_1))), (o, .inl (cL, (1, .inr (.inl (vp_updL fo 0 ((atL L (k + 1)).toInt64))))))] H := hP
  have hD : va_D A [(x0, .inr (1, [.ref r0, .ref r1, .ref r2, .ref r3, .int (nI rn)])), (r1, .inr (0, [.ref a1, .int (nI ((((L.set k (atL L (k + 1))).set (k + 1) (atL L k)).set (k + 2) (atL L (k + 1))).length))])), (a1, .inl (cA, (100, .inl f1_1))), (o, .inl (cL, (1, .inr (.inl (vp_updL fo 0 ((atL L (k + 1)).toInt64))))))] := hD
  refine lv_goto (tgt := 21) hx hb dL_about_10 (by decide) ?_
  refine lv_iconst (v := 0) hx hb dL_about_21 (by decide) ?_
  exact g_endMi hx hb hr hlocks hP hS dL_about_22 (f1_1) rfl rfl hw_2

abbrev mt_L_about_1_rm : Room := { frames := 8, cells := 1, slots := 6, locals := 135 }
set_option maxHeartbeats 4000000 in
set_option maxRecDepth 100000 in
theorem mt_L_about_1 (l : Launch) (htr : l.stackTraces = false) (dC : Nat → ClassId) (dI : Nat → Nat → Nat) (cA cL : ClassId) (sz : Nat) (x0 : Nat) (wd : Int32) (x : Int32) (r0 : Nat) (r1 : Nat) (r2 : Nat) (r3 : Nat) (R9 : Int32) (o : Nat) (fo : Nat → Int64) (hbad : wd < 0 ∨ 1 < wd) : Met l yL_about wsL_about mt_L_about_1_rm (va_Pc [.ref x0, .int wd, .int x, .ref o] (gBT (dC, dI) [(cA, .int), (cL, .long)] [(x0, .inr (1, [.ref r0, .ref r1, .ref r2, .ref r3, .int R9])), (o, .inl (cL, (1, .inr (.inl fo))))] sz)) (gM (dC, dI) (some (.int 1)) (fun u : Unit => True) (fun u : Unit => [(x0, .inr (1, [.ref r0, .ref r1, .ref r2, .ref r3, .int R9])), (o, .inl (cL, (1, .inr (.inl fo))))]) (va_A [(x0, .inr (1, [.ref r0, .ref r1, .ref r2, .ref r3, .int R9])), (o, .inl (cL, (1, .inr (.inl fo))))] sz)) 1 6 (va_A [(x0, .inr (1, [.ref r0, .ref r1, .ref r2, .ref r3, .int R9])), (o, .inl (cL, (1, .inr (.inl fo))))] sz) := by
  refine g_ofH (cc := cL_about) (maxL := 5) (ret := (some .int)) (by decide) rfl (Nat.le_of_ble_eq_true rfl) (fun p e s m below meth c ls hx hb hr hml hts hown hlocks htab hP hKl hl A hA hD hS hZ => ?_)
  have hK : va_K (dC, dI) vwCl [(cA, .int)] s := hKl.sub [0] rfl
  have hl : lv_has ls 5 [(0, .ref x0), (1, .int wd), (2, .int x), (3, .ref o)] := hl
  refine lv_aload_n hx hb dL_about_0 rfl (lv_at hl 3 rfl) ?_
  refine lv_iconst (v := 0) hx hb dL_about_1 (by decide) ?_
  refine lv_aload_n hx hb dL_about_2 rfl (lv_at hl 0 rfl) ?_
  refine lv_iload_n hx hb dL_about_3 rfl (lv_at hl 1 rfl) ?_
  refine lv_iload_n hx hb dL_about_4 rfl (lv_at hl 2 rfl) ?_
  refine g_HT (As := [.int wd, .int x]) (rest := [.int 0, .ref o]) (E := gIO) ⟨hx, hb, hml, hown, hts⟩ (th_X1_about_1 l htr dC dI cA s.heap.size x0 wd x hbad) (cwV 2 hts gL_about_X1_about rfl rfl rfl hdX1_about ⟨Nat.le_of_ble_eq_true rfl, Nat.le_of_ble_eq_true rfl⟩) hP hK hD hS hA hZ [] (by decide) rfl (va_recv hK hP (ci := 1) (q0 := 0) rfl rfl) rfl hl.1 rfl (Nat.le_of_ble_eq_true rfl) dL_about_5 (Nat.le_of_ble_eq_true rfl) (Nat.le_of_ble_eq_true rfl) (own := RL) hown [] ⟨0, 10, 13, 19⟩ [⟨0, 10, 17, 21⟩] (by rw [htab]; rfl) (fun z hz => absurd hz List.not_mem_nil) (by decide) (by decide) (hts (.classLink RL 19 "java/lang/IndexOutOfBoundsException") (List.mem_of_getElem? (i := 1) rfl)) (List.mem_of_getElem? (i := 1) rfl) (fun q9 H locs hP hS => ?_)
  refine lv_astore (lv' := [(4, .ref q9), (0, .ref x0), (1, .int wd), (2, .int x), (3, .ref o)]) hx hb dL_about_13 hl (by decide) rfl (fun ls hl => ?_)
  refine lv_iconst (v := 1) hx hb dL_about_15 (by decide) ?_
  exact g_endMi hx hb hr hlocks hP hS dL_about_16 () rfl rfl trivial

abbrev mt_L_about_1b_0_rm : Room := { frames := 8, cells := 1, slots := 6, locals := 136 }
set_option maxHeartbeats 4000000 in
set_option maxRecDepth 100000 in
theorem mt_L_about_1b_0 (l : Launch) (htr : l.stackTraces = false) (dC : Nat → ClassId) (dI : Nat → Nat → Nat) (cA cL : ClassId) (sz : Nat) (x0 : Nat) (r0 : Nat) (r1 : Nat) (r2 : Nat) (r3 : Nat) (rn : Nat) (a0 : Nat) (L : List Int32) (f : Nat → Int32) (x : Int32) (o : Nat) (fo : Nat → Int64) (hR : RI L f) (hbad : x < 0 ∨ nI L.length - 2 ≤ x) : Met l yL_about wsL_about mt_L_about_1b_0_rm (va_Pc [.ref x0, .int (nI 0), .int x, .ref o] (gBT (dC, dI) [(cA, .int), (cL, .long)] [(x0, .inr (1, [.ref r0, .ref r1, .ref r2, .ref r3, .int (nI rn)])), (r0, .inr (0, [.ref a0, .int (nI L.length)])), (a0, .inl (cA, (100, .inl f))), (o, .inl (cL, (1, .inr (.inl fo))))] sz)) (gM (dC, dI) (some (.int 1)) (fun u : Unit => True) (fun u : Unit => [(x0, .inr (1, [.ref r0, .ref r1, .ref r2, .ref r3, .int (nI rn)])), (r0, .inr (0, [.ref a0, .int (nI L.length)])), (a0, .inl (cA, (100, .inl f))), (o, .inl (cL, (1, .inr (.inl fo))))]) (va_A [(x0, .inr (1, [.ref r0, .ref r1, .ref r2, .ref r3, .int (nI rn)])), (r0, .inr (0, [.ref a0, .int (nI L.length)])), (a0, .inl (cA, (100, .inl f))), (o, .inl (cL, (1, .inr (.inl fo))))] sz)) 1 6 (va_A [(x0, .inr (1, [.ref r0, .ref r1, .ref r2, .ref r3, .int (nI rn)])), (r0, .inr (0, [.ref a0, .int (nI L.length)])), (a0, .inl (cA, (100, .inl f))), (o, .inl (cL, (1, .inr (.inl fo))))] sz) := by
  refine g_ofH (cc := cL_about) (maxL := 5) (ret := (some .int)) (by decide) rfl (Nat.le_of_ble_eq_true rfl) (fun p e s m below meth c ls hx hb hr hml hts hown hlocks htab hP hKl hl A hA hD hS hZ => ?_)
  have hK : va_K (dC, dI) vwCl [(cA, .int)] s := hKl.sub [0] rfl
  have hl : lv_has ls 5 [(0, .ref x0), (1, .int (nI 0)), (2, .int x), (3, .ref o)] := hl
  refine lv_aload_n hx hb dL_about_0 rfl (lv_at hl 3 rfl) ?_
  refine lv_iconst (v := 0) hx hb dL_about_1 (by decide) ?_
  refine lv_aload_n hx hb dL_about_2 rfl (lv_at hl 0 rfl) ?_
  refine lv_iload_n hx hb dL_about_3 rfl (lv_at hl 1 rfl) ?_
  refine lv_iload_n hx hb dL_about_4 rfl (lv_at hl 2 rfl) ?_
  refine g_HT (As := [.int (nI 0), .int x]) (rest := [.int 0, .ref o]) (E := gIO) ⟨hx, hb, hml, hown, hts⟩ (th_X1_about_1b_0 l htr dC dI cA s.heap.size x0 r0 r1 r2 r3 rn a0 L f x hR hbad) (cwV 2 hts gL_about_X1_about rfl rfl rfl hdX1_about ⟨Nat.le_of_ble_eq_true rfl, Nat.le_of_ble_eq_true rfl⟩) hP hK hD hS hA hZ [0, 1, 2] (by decide) rfl (va_recv hK hP (ci := 1) (q0 := 0) rfl rfl) rfl hl.1 rfl (Nat.le_of_ble_eq_true rfl) dL_about_5 (Nat.le_of_ble_eq_true rfl) (Nat.le_of_ble_eq_true rfl) (own := RL) hown [] ⟨0, 10, 13, 19⟩ [⟨0, 10, 17, 21⟩] (by rw [htab]; rfl) (fun z hz => absurd hz List.not_mem_nil) (by decide) (by decide) (hts (.classLink RL 19 "java/lang/IndexOutOfBoundsException") (List.mem_of_getElem? (i := 1) rfl)) (List.mem_of_getElem? (i := 1) rfl) (fun q9 H locs hP hS => ?_)
  refine lv_astore (lv' := [(4, .ref q9), (0, .ref x0), (1, .int (nI 0)), (2, .int x), (3, .ref o)]) hx hb dL_about_13 hl (by decide) rfl (fun ls hl => ?_)
  refine lv_iconst (v := 1) hx hb dL_about_15 (by decide) ?_
  exact g_endMi hx hb hr hlocks hP hS dL_about_16 () rfl rfl trivial

abbrev mt_L_about_2_0_rm : Room := { frames := 7, cells := 1, slots := 6, locals := 115 }
set_option maxHeartbeats 4000000 in
set_option maxRecDepth 100000 in
theorem mt_L_about_2_0 (l : Launch) (htr : l.stackTraces = false) (dC : Nat → ClassId) (dI : Nat → Nat → Nat) (cA cL : ClassId) (sz : Nat) (x0 : Nat) (r0 : Nat) (r1 : Nat) (r2 : Nat) (r3 : Nat) (rn : Nat) (a0 : Nat) (L : List Int32) (f : Nat → Int32) (k : Nat) (o : Nat) (fo : Nat → Int64) (hR : RI L f) (hk : k + 2 < L.length) (hno9 : ¬ (atL L (k + 2) = atL L k ∧ sgI (atL L (k + 1)) = sgI (atL L k) ∧ abI (abI (atL L (k + 1)) - abI (atL L k)) = 1)) : Met l yL_about wsL_about mt_L_about_2_0_rm (va_Pc [.ref x0, .int (nI 0), .int (nI k), .ref o] (gBT (dC, dI) [(cA, .int), (cL, .long)] [(x0, .inr (1, [.ref r0, .ref r1, .ref r2, .ref r3, .int (nI rn)])), (r0, .inr (0, [.ref a0, .int (nI L.length)])), (a0, .inl (cA, (100, .inl f))), (o, .inl (cL, (1, .inr (.inl fo))))] sz)) (gM (dC, dI) (some (.int 2)) (fun u : Unit => True) (fun u : Unit => [(x0, .inr (1, [.ref r0, .ref r1, .ref r2, .ref r3, .int (nI rn)])), (r0, .inr (0, [.ref a0, .int (nI L.length)])), (a0, .inl (cA, (100, .inl f))), (o, .inl (cL, (1, .inr (.inl fo))))]) (va_A [(x0, .inr (1, [.ref r0, .ref r1, .ref r2, .ref r3, .int (nI rn)])), (r0, .inr (0, [.ref a0, .int (nI L.length)])), (a0, .inl (cA, (100, .inl f))), (o, .inl (cL, (1, .inr (.inl fo))))] sz)) 1 6 (va_A [(x0, .inr (1, [.ref r0, .ref r1, .ref r2, .ref r3, .int (nI rn)])), (r0, .inr (0, [.ref a0, .int (nI L.length)])), (a0, .inl (cA, (100, .inl f))), (o, .inl (cL, (1, .inr (.inl fo))))] sz) := by
  refine g_ofH (cc := cL_about) (maxL := 5) (ret := (some .int)) (by decide) rfl (Nat.le_of_ble_eq_true rfl) (fun p e s m below meth c ls hx hb hr hml hts hown hlocks htab hP hKl hl A hA hD hS hZ => ?_)
  have hK : va_K (dC, dI) vwCl [(cA, .int)] s := hKl.sub [0] rfl
  have hl : lv_has ls 5 [(0, .ref x0), (1, .int (nI 0)), (2, .int (nI k)), (3, .ref o)] := hl
  refine lv_aload_n hx hb dL_about_0 rfl (lv_at hl 3 rfl) ?_
  refine lv_iconst (v := 0) hx hb dL_about_1 (by decide) ?_
  refine lv_aload_n hx hb dL_about_2 rfl (lv_at hl 0 rfl) ?_
  refine lv_iload_n hx hb dL_about_3 rfl (lv_at hl 1 rfl) ?_
  refine lv_iload_n hx hb dL_about_4 rfl (lv_at hl 2 rfl) ?_
  refine g_HT (As := [.int (nI 0), .int (nI k)]) (rest := [.int 0, .ref o]) (E := gIS) ⟨hx, hb, hml, hown, hts⟩ (th_X1_about_2_0 l htr dC dI cA s.heap.size x0 r0 r1 r2 r3 rn a0 L f k hR hk hno9) (cwV 2 hts gL_about_X1_about rfl rfl rfl hdX1_about ⟨Nat.le_of_ble_eq_true rfl, Nat.le_of_ble_eq_true rfl⟩) hP hK hD hS hA hZ [0, 1, 2] (by decide) rfl (va_recv hK hP (ci := 1) (q0 := 0) rfl rfl) rfl hl.1 rfl (Nat.le_of_ble_eq_true rfl) dL_about_5 (Nat.le_of_ble_eq_true rfl) (Nat.le_of_ble_eq_true rfl) (own := RL) hown [⟨0, 10, 13, 19⟩] ⟨0, 10, 17, 21⟩ [] (by rw [htab]; rfl) (fun z hz => by obtain rfl := List.mem_singleton.mp hz; exact ⟨by decide, gIO, (hts (.classLink RL 19 "java/lang/IndexOutOfBoundsException") (List.mem_of_getElem? (i := 1) rfl)), by decide +kernel⟩) (by decide) (by decide) (hts (.classLink RL 21 "java/lang/IllegalStateException") (List.mem_of_getElem? (i := 2) rfl)) (List.mem_of_getElem? (i := 2) rfl) (fun q9 H locs hP hS => ?_)
  refine lv_astore (lv' := [(4, .ref q9), (0, .ref x0), (1, .int (nI 0)), (2, .int (nI k)), (3, .ref o)]) hx hb dL_about_17 hl (by decide) rfl (fun ls hl => ?_)
  refine lv_iconst (v := 2) hx hb dL_about_19 (by decide) ?_
  exact g_endMi hx hb hr hlocks hP hS dL_about_20 () rfl rfl trivial

abbrev mt_L_about_1b_1_rm : Room := { frames := 8, cells := 1, slots := 6, locals := 136 }
set_option maxHeartbeats 4000000 in
set_option maxRecDepth 100000 in
theorem mt_L_about_1b_1 (l : Launch) (htr : l.stackTraces = false) (dC : Nat → ClassId) (dI : Nat → Nat → Nat) (cA cL : ClassId) (sz : Nat) (x0 : Nat) (r0 : Nat) (r1 : Nat) (r2 : Nat) (r3 : Nat) (rn : Nat) (a1 : Nat) (L : List Int32) (f : Nat → Int32) (x : Int32) (o : Nat) (fo : Nat → Int64) (hR : RI L f) (hbad : x < 0 ∨ nI L.length - 2 ≤ x) : Met l yL_about wsL_about mt_L_about_1b_1_rm (va_Pc [.ref x0, .int (nI 1), .int x, .ref o] (gBT (dC, dI) [(cA, .int), (cL, .long)] [(x0, .inr (1, [.ref r0, .ref r1, .ref r2, .ref r3, .int (nI rn)])), (r1, .inr (0, [.ref a1, .int (nI L.length)])), (a1, .inl (cA, (100, .inl f))), (o, .inl (cL, (1, .inr (.inl fo))))] sz)) (gM (dC, dI) (some (.int 1)) (fun u : Unit => True) (fun u : Unit => [(x0, .inr (1, [.ref r0, .ref r1, .ref r2, .ref r3, .int (nI rn)])), (r1, .inr (0, [.ref a1, .int (nI L.length)])), (a1, .inl (cA, (100, .inl f))), (o, .inl (cL, (1, .inr (.inl fo))))]) (va_A [(x0, .inr (1, [.ref r0, .ref r1, .ref r2, .ref r3, .int (nI rn)])), (r1, .inr (0, [.ref a1, .int (nI L.length)])), (a1, .inl (cA, (100, .inl f))), (o, .inl (cL, (1, .inr (.inl fo))))] sz)) 1 6 (va_A [(x0, .inr (1, [.ref r0, .ref r1, .ref r2, .ref r3, .int (nI rn)])), (r1, .inr (0, [.ref a1, .int (nI L.length)])), (a1, .inl (cA, (100, .inl f))), (o, .inl (cL, (1, .inr (.inl fo))))] sz) := by
  refine g_ofH (cc := cL_about) (maxL := 5) (ret := (some .int)) (by decide) rfl (Nat.le_of_ble_eq_true rfl) (fun p e s m below meth c ls hx hb hr hml hts hown hlocks htab hP hKl hl A hA hD hS hZ => ?_)
  have hK : va_K (dC, dI) vwCl [(cA, .int)] s := hKl.sub [0] rfl
  have hl : lv_has ls 5 [(0, .ref x0), (1, .int (nI 1)), (2, .int x), (3, .ref o)] := hl
  refine lv_aload_n hx hb dL_about_0 rfl (lv_at hl 3 rfl) ?_
  refine lv_iconst (v := 0) hx hb dL_about_1 (by decide) ?_
  refine lv_aload_n hx hb dL_about_2 rfl (lv_at hl 0 rfl) ?_
  refine lv_iload_n hx hb dL_about_3 rfl (lv_at hl 1 rfl) ?_
  refine lv_iload_n hx hb dL_about_4 rfl (lv_at hl 2 rfl) ?_
  refine g_HT (As := [.int (nI 1), .int x]) (rest := [.int 0, .ref o]) (E := gIO) ⟨hx, hb, hml, hown, hts⟩ (th_X1_about_1b_1 l htr dC dI cA s.heap.size x0 r0 r1 r2 r3 rn a1 L f x hR hbad) (cwV 2 hts gL_about_X1_about rfl rfl rfl hdX1_about ⟨Nat.le_of_ble_eq_true rfl, Nat.le_of_ble_eq_true rfl⟩) hP hK hD hS hA hZ [0, 1, 2] (by decide) rfl (va_recv hK hP (ci := 1) (q0 := 0) rfl rfl) rfl hl.1 rfl (Nat.le_of_ble_eq_true rfl) dL_about_5 (Nat.le_of_ble_eq_true rfl) (Nat.le_of_ble_eq_true rfl) (own := RL) hown [] ⟨0, 10, 13, 19⟩ [⟨0, 10, 17, 21⟩] (by rw [htab]; rfl) (fun z hz => absurd hz List.not_mem_nil) (by decide) (by decide) (hts (.classLink RL 19 "java/lang/IndexOutOfBoundsException") (List.mem_of_getElem? (i := 1) rfl)) (List.mem_of_getElem? (i := 1) rfl) (fun q9 H locs hP hS => ?_)
  refine lv_astore (lv' := [(4, .ref q9), (0, .ref x0), (1, .int (nI 1)), (2, .int x), (3, .ref o)]) hx hb dL_about_13 hl (by decide) rfl (fun ls hl => ?_)
  refine lv_iconst (v := 1) hx hb dL_about_15 (by decide) ?_
  exact g_endMi hx hb hr hlocks hP hS dL_about_16 () rfl rfl trivial

abbrev mt_L_about_2_1_rm : Room := { frames := 7, cells := 1, slots := 6, locals := 115 }
set_option maxHeartbeats 4000000 in
set_option maxRecDepth 100000 in
theorem mt_L_about_2_1 (l : Launch) (htr : l.stackTraces = false) (dC : Nat → ClassId) (dI : Nat → Nat → Nat) (cA cL : ClassId) (sz : Nat) (x0 : Nat) (r0 : Nat) (r1 : Nat) (r2 : Nat) (r3 : Nat) (rn : Nat) (a1 : Nat) (L : List Int32) (f : Nat → Int32) (k : Nat) (o : Nat) (fo : Nat → Int64) (hR : RI L f) (hk : k + 2 < L.length) (hno9 : ¬ (atL L (k + 2) = atL L k ∧ sgI (atL L (k + 1)) = sgI (atL L k) ∧ abI (abI (atL L (k + 1)) - abI (atL L k)) = 1)) : Met l yL_about wsL_about mt_L_about_2_1_rm (va_Pc [.ref x0, .int (nI 1), .int (nI k), .ref o] (gBT (dC, dI) [(cA, .int), (cL, .long)] [(x0, .inr (1, [.ref r0, .ref r1, .ref r2, .ref r3, .int (nI rn)])), (r1, .inr (0, [.ref a1, .int (nI L.length)])), (a1, .inl (cA, (100, .inl f))), (o, .inl (cL, (1, .inr (.inl fo))))] sz)) (gM (dC, dI) (some (.int 2)) (fun u : Unit => True) (fun u : Unit => [(x0, .inr (1, [.ref r0, .ref r1, .ref r2, .ref r3, .int (nI rn)])), (r1, .inr (0, [.ref a1, .int (nI L.length)])), (a1, .inl (cA, (100, .inl f))), (o, .inl (cL, (1, .inr (.inl fo))))]) (va_A [(x0, .inr (1, [.ref r0, .ref r1, .ref r2, .ref r3, .int (nI rn)])), (r1, .inr (0, [.ref a1, .int (nI L.length)])), (a1, .inl (cA, (100, .inl f))), (o, .inl (cL, (1, .inr (.inl fo))))] sz)) 1 6 (va_A [(x0, .inr (1, [.ref r0, .ref r1, .ref r2, .ref r3, .int (nI rn)])), (r1, .inr (0, [.ref a1, .int (nI L.length)])), (a1, .inl (cA, (100, .inl f))), (o, .inl (cL, (1, .inr (.inl fo))))] sz) := by
  refine g_ofH (cc := cL_about) (maxL := 5) (ret := (some .int)) (by decide) rfl (Nat.le_of_ble_eq_true rfl) (fun p e s m below meth c ls hx hb hr hml hts hown hlocks htab hP hKl hl A hA hD hS hZ => ?_)
  have hK : va_K (dC, dI) vwCl [(cA, .int)] s := hKl.sub [0] rfl
  have hl : lv_has ls 5 [(0, .ref x0), (1, .int (nI 1)), (2, .int (nI k)), (3, .ref o)] := hl
  refine lv_aload_n hx hb dL_about_0 rfl (lv_at hl 3 rfl) ?_
  refine lv_iconst (v := 0) hx hb dL_about_1 (by decide) ?_
  refine lv_aload_n hx hb dL_about_2 rfl (lv_at hl 0 rfl) ?_
  refine lv_iload_n hx hb dL_about_3 rfl (lv_at hl 1 rfl) ?_
  refine lv_iload_n hx hb dL_about_4 rfl (lv_at hl 2 rfl) ?_
  refine g_HT (As := [.int (nI 1), .int (nI k)]) (rest := [.int 0, .ref o]) (E := gIS) ⟨hx, hb, hml, hown, hts⟩ (th_X1_about_2_1 l htr dC dI cA s.heap.size x0 r0 r1 r2 r3 rn a1 L f k hR hk hno9) (cwV 2 hts gL_about_X1_about rfl rfl rfl hdX1_about ⟨Nat.le_of_ble_eq_true rfl, Nat.le_of_ble_eq_true rfl⟩) hP hK hD hS hA hZ [0, 1, 2] (by decide) rfl (va_recv hK hP (ci := 1) (q0 := 0) rfl rfl) rfl hl.1 rfl (Nat.le_of_ble_eq_true rfl) dL_about_5 (Nat.le_of_ble_eq_true rfl) (Nat.le_of_ble_eq_true rfl) (own := RL) hown [⟨0, 10, 13, 19⟩] ⟨0, 10, 17, 21⟩ [] (by rw [htab]; rfl) (fun z hz => by obtain rfl := List.mem_singleton.mp hz; exact ⟨by decide, gIO, (hts (.classLink RL 19 "java/lang/IndexOutOfBoundsException") (List.mem_of_getElem? (i := 1) rfl)), by decide +kernel⟩) (by decide) (by decide) (hts (.classLink RL 21 "java/lang/IllegalStateException") (List.mem_of_getElem? (i := 2) rfl)) (List.mem_of_getElem? (i := 2) rfl) (fun q9 H locs hP hS => ?_)
  refine lv_astore (lv' := [(4, .ref q9), (0, .ref x0), (1, .int (nI 1)), (2, .int (nI k)), (3, .ref o)]) hx hb dL_about_17 hl (by decide) rfl (fun ls hl => ?_)
  refine lv_iconst (v := 2) hx hb dL_about_19 (by decide) ?_
  exact g_endMi hx hb hr hlocks hP hS dL_about_20 () rfl rfl trivial

abbrev mt_L_insert0_rm : Room := { frames := 3, cells := 0, slots := 0, locals := 69 }
set_option maxHeartbeats 4000000 in
set_option maxRecDepth 100000 in
theorem mt_L_insert0 (l : Launch) (htr : l.stackTraces = false) (dC : Nat → ClassId) (dI : Nat → Nat → Nat) (cA cL : ClassId) (sz : Nat) (x0 : Nat) (r0 : Nat) (r1 : Nat) (r2 : Nat) (r3 : Nat) (rn : Nat) (a0 : Nat) (L : List Int32) (f : Nat → Int32) (k : Nat) (x : Int32) (o : Nat) (fo : Nat → Int64) (hR : RI L f) (hk : k ≤ L.length) (h0 : ¬ x = 0) (h1 : ¬ x ≤ -nI rn) (h2 : x < nI rn) (hk2 : L.length + 2 ≤ 30) : Met l yL_insert wsL_insert mt_L_insert0_rm (va_Pc [.ref x0, .int (nI 0), .int (nI k), .int x, .ref o] (gBT (dC, dI) [(cA, .int), (cL, .long)] [(x0, .inr (1, [.ref r0, .ref r1, .ref r2, .ref r3, .int (nI rn)])), (r0, .inr (0, [.ref a0, .int (nI L.length)])), (a0, .inl (cA, (100, .inl f))), (o, .inl (cL, (1, .inr (.inl fo))))] sz)) (gM (dC, dI) (some (.int 0)) (fun u : (Nat → Int32) => RI (insL (insL L k (-x)) k x) u) (fun u : (Nat → Int32) => [(x0, .inr (1, [.ref r0, .ref r1, .ref r2, .ref r3, .int (nI rn)])), (r0, .inr (0, [.ref a0, .int (nI ((insL (insL L k (-x)) k x).length))])), (a0, .inl (cA, (100, .inl u))), (o, .inl (cL, (1, .inr (.inl (vp_updL fo 0 (nI ((insL (insL L k (-x)) k x).length)).toInt64)))))]) (va_A [(x0, .inr (1, [.ref r0, .ref r1, .ref r2, .ref r3, .int (nI rn)])), (r0, .inr (0, [.ref a0, .int (nI L.length)])), (a0, .inl (cA, (100, .inl f))), (o, .inl (cL, (1, .inr (.inl fo))))] sz)) 0 0 (va_A [(x0, .inr (1, [.ref r0, .ref r1, .ref r2, .ref r3, .int (nI rn)])), (r0, .inr (0, [.ref a0, .int (nI L.length)])), (a0, .inl (cA, (100, .inl f))), (o, .inl (cL, (1, .inr (.inl fo))))] sz) := by
  refine g_ofH (cc := cL_insert) (maxL := 6) (ret := (some .int)) (by decide) rfl (Nat.le_of_ble_eq_true rfl) (fun p e s m below meth c ls hx hb hr hml hts hown hlocks htab hP hKl hl A hA hD hS hZ => ?_)
  have hK : va_K (dC, dI) vwCl [(cA, .int)] s := hKl.sub [0] rfl
  have hl : lv_has ls 6 [(0, .ref x0), (1, .int (nI 0)), (2, .int (nI k)), (3, .int x), (4, .ref o)] := hl
  refine lv_aload hx hb dL_insert_0 (lv_at hl 4 rfl) ?_
  refine lv_iconst (v := 0) hx hb dL_insert_2 (by decide) ?_
  refine lv_aload_n hx hb dL_insert_3 rfl (lv_at hl 0 rfl) ?_
  refine lv_iload_n hx hb dL_insert_4 rfl (lv_at hl 1 rfl) ?_
  refine lv_iload_n hx hb dL_insert_5 rfl (lv_at hl 2 rfl) ?_
  refine lv_iload_n hx hb dL_insert_6 rfl (lv_at hl 3 rfl) ?_
  refine g_MVi (As := [.int (nI 0), .int (nI k), .int x]) (rest := [.int 0, .ref o]) ⟨hx, hb, hml, hown, hts⟩ (mt_X1_insert0 l dC dI cA s.heap.size x0 r0 r1 r2 r3 rn a0 L f k x hR hk h0 h1 h2 hk2) (cwV 3 hts gL_insert_X1_insert rfl rfl rfl hdX1_insert ⟨Nat.le_of_ble_eq_true rfl, Nat.le_of_ble_eq_true rfl⟩) hP hK hD hS hA [0, 1, 2] (by decide) rfl (va_recv hK hP (ci := 1) (q0 := 0) rfl rfl) rfl hl.1 rfl (Nat.le_of_ble_eq_true rfl) dL_insert_7 (Nat.zero_le _) (Nat.zero_le _) (fun u9 => [(x0, .inr (1, [.ref r0, .ref r1, .ref r2, .ref r3, .int (nI rn)])), (r0, .inr (0, [.ref a0, .int (nI ((insL (insL L k (-x)) k x).length))])), (a0, .inl (cA, (100, .inl u9))), (o, .inl (cL, (1, .inr (.inl fo))))]) (fun _ => rfl) (fun _ => rfl) (fun u H locs hw_2 hP hD hS => ?_)
  obtain ⟨f1_1, rfl⟩ : ∃ z, z = u := ⟨_, rfl⟩
  have hw_2 : RI (insL (insL L k (-x)) k x) f1_1 := hw_2
  have hP : va_P (dC, dI) vwCl [(x0, .inr (1, [.ref r0, .ref r1, .ref r2, .ref r3, .int (nI rn)])), (r0, .inr (0, [.ref a0, .int (nI ((insL (insL L k (-x)) k x).length))])), (a0, .inl (cA, (100, .inl f1_1))), (o, .inl (cL, (1, .inr (.inl fo))))] H := hP
  have hD : va_D A [(x0, .inr (1, [.ref r0, .ref r1, .ref r2, .ref r3, .int (nI rn)])), (r0, .inr (0, [.ref a0, .int (nI ((insL (insL L k (-x)) k x).length))])), (a0, .inl (cA, (100, .inl f1_1))), (o, .inl (cL, (1, .inr (.inl fo))))] := hD
  refine lv_i2l (v := (nI ((insL (insL L k (-x)) k x).length)).toInt64) hx hb dL_insert_10 rfl ?_
  refine va_last hx hb hKl hP hD hS 3 1 rfl rfl (vp_in_nI (n := 0) (by omega) (by decide)) dL_insert_11 (fun H locs hP hD hS => ?_)
  rw [show (0 : Int32).toNatClampNeg = 0 from by decide] at hP hD
  have hP : va_P (dC, dI) vwCl [(x0, .inr (1, [.ref r0, .ref r1, .ref r2, .ref r3, .int (nI rn)])), (r0, .inr (0, [.ref a0, .int (nI ((insL (insL L k (-x)) k x).length))])), (a0, .inl (cA, (100, .inl f1_1))), (o, .inl (cL, (1, .inr (.inl (vp_updL fo 0 ((nI ((insL (insL L k (-x)) k x).length)).toInt64))))))] H := hP
  have hD : va_D A [(x0, .inr (1, [.ref r0, .ref r1, .ref r2, .ref r3, .int (nI rn)])), (r0, .inr (0, [.ref a0, .int (nI ((insL (insL L k (-x)) k x).length))])), (a0, .inl (cA, (100, .inl f1_1))), (o, .inl (cL, (1, .inr (.inl (vp_updL fo 0 ((nI ((insL (insL L k (-x)) k x).length)).toInt64))))))] := hD
  refine lv_goto (tgt := 27) hx hb dL_insert_12 (by decide) ?_
  refine lv_iconst (v := 0) hx hb dL_insert_27 (by decide) ?_
  exact g_endMi hx hb hr hlocks hP hS dL_insert_28 (f1_1) rfl rfl hw_2

abbrev mt_L_insert1_rm : Room := { frames := 3, cells := 0, slots := 0, locals := 69 }
set_option maxHeartbeats 4000000 in
set_option maxRecDepth 100000 in
theorem mt_L_insert1 (l : Launch) (htr : l.stackTraces = false) (dC : Nat → ClassId) (dI : Nat → Nat → Nat) (cA cL : ClassId) (sz : Nat) (x0 : Nat) (r0 : Nat) (r1 : Nat) (r2 : Nat) (r3 : Nat) (rn : Nat) (a1 : Nat) (L : List Int32) (f : Nat → Int32) (k : Nat) (x : Int32) (o : Nat) (fo : Nat → Int64) (hR : RI L f) (hk : k ≤ L.length) (h0 : ¬ x = 0) (h1 : ¬ x ≤ -nI rn) (h2 : x < nI rn) (hk2 : L.length + 2 ≤ 30) : Met l yL_insert wsL_insert mt_L_insert1_rm (va_Pc [.ref x0, .int (nI 1), .int (nI k), .int x, .ref o] (gBT (dC, dI) [(cA, .int), (cL, .long)] [(x0, .inr (1, [.ref r0, .ref r1, .ref r2, .ref r3, .int (nI rn)])), (r1, .inr (0, [.ref a1, .int (nI L.length)])), (a1, .inl (cA, (100, .inl f))), (o, .inl (cL, (1, .inr (.inl fo))))] sz)) (gM (dC, dI) (some (.int 0)) (fun u : (Nat → Int32) => RI (insL (insL L k (-x)) k x) u) (fun u : (Nat → Int32) => [(x0, .inr (1, [.ref r0, .ref r1, .ref r2, .ref r3, .int (nI rn)])), (r1, .inr (0, [.ref a1, .int (nI ((insL (insL L k (-x)) k x).length))])), (a1, .inl (cA, (100, .inl u))), (o, .inl (cL, (1, .inr (.inl (vp_updL fo 0 (nI ((insL (insL L k (-x)) k x).length)).toInt64)))))]) (va_A [(x0, .inr (1, [.ref r0, .ref r1, .ref r2, .ref r3, .int (nI rn)])), (r1, .inr (0, [.ref a1, .int (nI L.length)])), (a1, .inl (cA, (100, .inl f))), (o, .inl (cL, (1, .inr (.inl fo))))] sz)) 0 0 (va_A [(x0, .inr (1, [.ref r0, .ref r1, .ref r2, .ref r3, .int (nI rn)])), (r1, .inr (0, [.ref a1, .int (nI L.length)])), (a1, .inl (cA, (100, .inl f))), (o, .inl (cL, (1, .inr (.inl fo))))] sz) := by
  refine g_ofH (cc := cL_insert) (maxL := 6) (ret := (some .int)) (by decide) rfl (Nat.le_of_ble_eq_true rfl) (fun p e s m below meth c ls hx hb hr hml hts hown hlocks htab hP hKl hl A hA hD hS hZ => ?_)
  have hK : va_K (dC, dI) vwCl [(cA, .int)] s := hKl.sub [0] rfl
  have hl : lv_has ls 6 [(0, .ref x0), (1, .int (nI 1)), (2, .int (nI k)), (3, .int x), (4, .ref o)] := hl
  refine lv_aload hx hb dL_insert_0 (lv_at hl 4 rfl) ?_
  refine lv_iconst (v := 0) hx hb dL_insert_2 (by decide) ?_
  refine lv_aload_n hx hb dL_insert_3 rfl (lv_at hl 0 rfl) ?_
  refine lv_iload_n hx hb dL_insert_4 rfl (lv_at hl 1 rfl) ?_
  refine lv_iload_n hx hb dL_insert_5 rfl (lv_at hl 2 rfl) ?_
  refine lv_iload_n hx hb dL_insert_6 rfl (lv_at hl 3 rfl) ?_
  refine g_MVi (As := [.int (nI 1), .int (nI k), .int x]) (rest := [.int 0, .ref o]) ⟨hx, hb, hml, hown, hts⟩ (mt_X1_insert1 l dC dI cA s.heap.size x0 r0 r1 r2 r3 rn a1 L f k x hR hk h0 h1 h2 hk2) (cwV 3 hts gL_insert_X1_insert rfl rfl rfl hdX1_insert ⟨Nat.le_of_ble_eq_true rfl, Nat.le_of_ble_eq_true rfl⟩) hP hK hD hS hA [0, 1, 2] (by decide) rfl (va_recv hK hP (ci := 1) (q0 := 0) rfl rfl) rfl hl.1 rfl (Nat.le_of_ble_eq_true rfl) dL_insert_7 (Nat.zero_le _) (Nat.zero_le _) (fun u9 => [(x0, .inr (1, [.ref r0, .ref r1, .ref r2, .ref r3, .int (nI rn)])), (r1, .inr (0, [.ref a1, .int (nI ((insL (insL L k (-x)) k x).length))])), (a1, .inl (cA, (100, .inl u9))), (o, .inl (cL, (1, .inr (.inl fo))))]) (fun _ => rfl) (fun _ => rfl) (fun u H locs hw_2 hP hD hS => ?_)
  obtain ⟨f1_1, rfl⟩ : ∃ z, z = u := ⟨_, rfl⟩
  have hw_2 : RI (insL (insL L k (-x)) k x) f1_1 := hw_2
  have hP : va_P (dC, dI) vwCl [(x0, .inr (1, [.ref r0, .ref r1, .ref r2, .ref r3, .int (nI rn)])), (r1, .inr (0, [.ref a1, .int (nI ((insL (insL L k (-x)) k x).length))])), (a1, .inl (cA, (100, .inl f1_1))), (o, .inl (cL, (1, .inr (.inl fo))))] H := hP
  have hD : va_D A [(x0, .inr (1, [.ref r0, .ref r1, .ref r2, .ref r3, .int (nI rn)])), (r1, .inr (0, [.ref a1, .int (nI ((insL (insL L k (-x)) k x).length))])), (a1, .inl (cA, (100, .inl f1_1))), (o, .inl (cL, (1, .inr (.inl fo))))] := hD
  refine lv_i2l (v := (nI ((insL (insL L k (-x)) k x).length)).toInt64) hx hb dL_insert_10 rfl ?_
  refine va_last hx hb hKl hP hD hS 3 1 rfl rfl (vp_in_nI (n := 0) (by omega) (by decide)) dL_insert_11 (fun H locs hP hD hS => ?_)
  rw [show (0 : Int32).toNatClampNeg = 0 from by decide] at hP hD
  have hP : va_P (dC, dI) vwCl [(x0, .inr (1, [.ref r0, .ref r1, .ref r2, .ref r3, .int (nI rn)])), (r1, .inr (0, [.ref a1, .int (nI ((insL (insL L k (-x)) k x).length))])), (a1, .inl (cA, (100, .inl f1_1))), (o, .inl (cL, (1, .inr (.inl (vp_updL fo 0 ((nI ((insL (insL L k (-x)) k x).length)).toInt64))))))] H := hP
  have hD : va_D A [(x0, .inr (1, [.ref r0, .ref r1, .ref r2, .ref r3, .int (nI rn)])), (r1, .inr (0, [.ref a1, .int (nI ((insL (insL L k (-x)) k x).length))])), (a1, .inl (cA, (100, .inl f1_1))), (o, .inl (cL, (1, .inr (.inl (vp_updL fo 0 ((nI ((insL (insL L k (-x)) k x).length)).toInt64))))))] := hD
  refine lv_goto (tgt := 27) hx hb dL_insert_12 (by decide) ?_
  refine lv_iconst (v := 0) hx hb dL_insert_27 (by decide) ?_
  exact g_endMi hx hb hr hlocks hP hS dL_insert_28 (f1_1) rfl rfl hw_2

abbrev mt_L_insert_1_rm : Room := { frames := 8, cells := 1, slots := 6, locals := 134 }
set_option maxHeartbeats 4000000 in
set_option maxRecDepth 100000 in
theorem mt_L_insert_1 (l : Launch) (htr : l.stackTraces = false) (dC : Nat → ClassId) (dI : Nat → Nat → Nat) (cA cL : ClassId) (sz : Nat) (x0 : Nat) (wd : Int32) (x : Int32) (y : Int32) (r0 : Nat) (r1 : Nat) (r2 : Nat) (r3 : Nat) (R9 : Int32) (o : Nat) (fo : Nat → Int64) (hbad : wd < 0 ∨ 1 < wd) : Met l yL_insert wsL_insert mt_L_insert_1_rm (va_Pc [.ref x0, .int wd, .int x, .int y, .ref o] (gBT (dC, dI) [(cA, .int), (cL, .long)] [(x0, .inr (1, [.ref r0, .ref r1, .ref r2, .ref r3, .int R9])), (o, .inl (cL, (1, .inr (.inl fo))))] sz)) (gM (dC, dI) (some (.int 1)) (fun u : Unit => True) (fun u : Unit => [(x0, .inr (1, [.ref r0, .ref r1, .ref r2, .ref r3, .int R9])), (o, .inl (cL, (1, .inr (.inl fo))))]) (va_A [(x0, .inr (1, [.ref r0, .ref r1, .ref r2, .ref r3, .int R9])), (o, .inl (cL, (1, .inr (.inl fo))))] sz)) 1 6 (va_A [(x0, .inr (1, [.ref r0, .ref r1, .ref r2, .ref r3, .int R9])), (o, .inl (cL, (1, .inr (.inl fo))))] sz) := by
  refine g_ofH (cc := cL_insert) (maxL := 6) (ret := (some .int)) (by decide) rfl (Nat.le_of_ble_eq_true rfl) (fun p e s m below meth c ls hx hb hr hml hts hown hlocks htab hP hKl hl A hA hD hS hZ => ?_)
  have hK : va_K (dC, dI) vwCl [(cA, .int)] s := hKl.sub [0] rfl
  have hl : lv_has ls 6 [(0, .ref x0), (1, .int wd), (2, .int x), (3, .int y), (4, .ref o)] := hl
  refine lv_aload hx hb dL_insert_0 (lv_at hl 4 rfl) ?_
  refine lv_iconst (v := 0) hx hb dL_insert_2 (by decide) ?_
  refine lv_aload_n hx hb dL_insert_3 rfl (lv_at hl 0 rfl) ?_
  refine lv_iload_n hx hb dL_insert_4 rfl (lv_at hl 1 rfl) ?_
  refine lv_iload_n hx hb dL_insert_5 rfl (lv_at hl 2 rfl) ?_
  refine lv_iload_n hx hb dL_insert_6 rfl (lv_at hl 3 rfl) ?_
  refine g_HT (As := [.int wd, .int x, .int y]) (rest := [.int 0, .ref o]) (E := gIO) ⟨hx, hb, hml, hown, hts⟩ (th_X1_insert_1 l htr dC dI cA s.heap.size x0 wd x y hbad) (cwV 3 hts gL_insert_X1_insert rfl rfl rfl hdX1_insert ⟨Nat.le_of_ble_eq_true rfl, Nat.le_of_ble_eq_true rfl⟩) hP hK hD hS hA hZ [] (by decide) rfl (va_recv hK hP (ci := 1) (q0 := 0) rfl rfl) rfl hl.1 rfl (Nat.le_of_ble_eq_true rfl) dL_insert_7 (Nat.le_of_ble_eq_true rfl) (Nat.le_of_ble_eq_true rfl) (own := RL) hown [] ⟨0, 12, 15, 19⟩ [⟨0, 12, 19, 13⟩, ⟨0, 12, 23, 21⟩] (by rw [htab]; rfl) (fun z hz => absurd hz List.not_mem_nil) (by decide) (by decide) (hts (.classLink RL 19 "java/lang/IndexOutOfBoundsException") (List.mem_of_getElem? (i := 1) rfl)) (List.mem_of_getElem? (i := 1) rfl) (fun q9 H locs hP hS => ?_)
  refine lv_astore (lv' := [(5, .ref q9), (0, .ref x0), (1, .int wd), (2, .int x), (3, .int y), (4, .ref o)]) hx hb dL_insert_15 hl (by decide) rfl (fun ls hl => ?_)
  refine lv_iconst (v := 1) hx hb dL_insert_17 (by decide) ?_
  exact g_endMi hx hb hr hlocks hP hS dL_insert_18 () rfl rfl trivial

abbrev mt_L_insert_1b_0_rm : Room := { frames := 8, cells := 1, slots := 6, locals := 135 }
set_option maxHeartbeats 4000000 in
set_option maxRecDepth 100000 in
theorem mt_L_insert_1b_0 (l : Launch) (htr : l.stackTraces = false) (dC : Nat → ClassId) (dI : Nat → Nat → Nat) (cA cL : ClassId) (sz : Nat) (x0 : Nat) (r0 : Nat) (r1 : Nat) (r2 : Nat) (r3 : Nat) (rn : Nat) (a0 : Nat) (L : List Int32) (f : Nat → Int32) (x : Int32) (y : Int32) (o : Nat) (fo : Nat → Int64) (hR : RI L f) (hbad : x < 0 ∨ nI (L.length + 1) ≤ x) : Met l yL_insert wsL_insert mt_L_insert_1b_0_rm (va_Pc [.ref x0, .int (nI 0), .int x, .int y, .ref o] (gBT (dC, dI) [(cA, .int), (cL, .long)] [(x0, .inr (1, [.ref r0, .ref r1, .ref r2, .ref r3, .int (nI rn)])), (r0, .inr (0, [.ref a0, .int (nI L.length)])), (a0, .inl (cA, (100, .inl f))), (o, .inl (cL, (1, .inr (.inl fo))))] sz)) (gM (dC, dI) (some (.int 1)) (fun u : Unit => True) (fun u : Unit => [(x0, .inr (1, [.ref r0, .ref r1, .ref r2, .ref r3, .int (nI rn)])), (r0, .inr (0, [.ref a0, .int (nI L.length)])), (a0, .inl (cA, (100, .inl f))), (o, .inl (cL, (1, .inr (.inl fo))))]) (va_A [(x0, .inr (1, [.ref r0, .ref r1, .ref r2, .ref r3, .int (nI rn)])), (r0, .inr (0, [.ref a0, .int (nI L.length)])), (a0, .inl (cA, (100, .inl f))), (o, .inl (cL, (1, .inr (.inl fo))))] sz)) 1 6 (va_A [(x0, .inr (1, [.ref r0, .ref r1, .ref r2, .ref r3, .int (nI rn)])), (r0, .inr (0, [.ref a0, .int (nI L.length)])), (a0, .inl (cA, (100, .inl f))), (o, .inl (cL, (1, .inr (.inl fo))))] sz) := by
  refine g_ofH (cc := cL_insert) (maxL := 6) (ret := (some .int)) (by decide) rfl (Nat.le_of_ble_eq_true rfl) (fun p e s m below meth c ls hx hb hr hml hts hown hlocks htab hP hKl hl A hA hD hS hZ => ?_)
  have hK : va_K (dC, dI) vwCl [(cA, .int)] s := hKl.sub [0] rfl
  have hl : lv_has ls 6 [(0, .ref x0), (1, .int (nI 0)), (2, .int x), (3, .int y), (4, .ref o)] := hl
  refine lv_aload hx hb dL_insert_0 (lv_at hl 4 rfl) ?_
  refine lv_iconst (v := 0) hx hb dL_insert_2 (by decide) ?_
  refine lv_aload_n hx hb dL_insert_3 rfl (lv_at hl 0 rfl) ?_
  refine lv_iload_n hx hb dL_insert_4 rfl (lv_at hl 1 rfl) ?_
  refine lv_iload_n hx hb dL_insert_5 rfl (lv_at hl 2 rfl) ?_
  refine lv_iload_n hx hb dL_insert_6 rfl (lv_at hl 3 rfl) ?_
  refine g_HT (As := [.int (nI 0), .int x, .int y]) (rest := [.int 0, .ref o]) (E := gIO) ⟨hx, hb, hml, hown, hts⟩ (th_X1_insert_1b_0 l htr dC dI cA s.heap.size x0 r0 r1 r2 r3 rn a0 L f x y hR hbad) (cwV 3 hts gL_insert_X1_insert rfl rfl rfl hdX1_insert ⟨Nat.le_of_ble_eq_true rfl, Nat.le_of_ble_eq_true rfl⟩) hP hK hD hS hA hZ [0, 1, 2] (by decide) rfl (va_recv hK hP (ci := 1) (q0 := 0) rfl rfl) rfl hl.1 rfl (Nat.le_of_ble_eq_true rfl) dL_insert_7 (Nat.le_of_ble_eq_true rfl) (Nat.le_of_ble_eq_true rfl) (own := RL) hown [] ⟨0, 12, 15, 19⟩ [⟨0, 12, 19, 13⟩, ⟨0, 12, 23, 21⟩] (by rw [htab]; rfl) (fun z hz => absurd hz List.not_mem_nil) (by decide) (by decide) (hts (.classLink RL 19 "java/lang/IndexOutOfBoundsException") (List.mem_of_getElem? (i := 1) rfl)) (List.mem_of_getElem? (i := 1) rfl) (fun q9 H locs hP hS => ?_)
  refine lv_astore (lv' := [(5, .ref q9), (0, .ref x0), (1, .int (nI 0)), (2, .int x), (3, .int y), (4, .ref o)]) hx hb dL_insert_15 hl (by decide) rfl (fun ls hl => ?_)
  refine lv_iconst (v := 1) hx hb dL_insert_17 (by decide) ?_
  exact g_endMi hx hb hr hlocks hP hS dL_insert_18 () rfl rfl trivial

abbrev mt_L_insert_2_0_rm : Room := { frames := 8, cells := 1, slots := 6, locals := 135 }
set_option maxHeartbeats 4000000 in
set_option maxRecDepth 100000 in
theorem mt_L_insert_2_0 (l : Launch) (htr : l.stackTraces = false) (dC : Nat → ClassId) (dI : Nat → Nat → Nat) (cA cL : ClassId) (sz : Nat) (x0 : Nat) (r0 : Nat) (r1 : Nat) (r2 : Nat) (r3 : Nat) (rn : Nat) (a0 : Nat) (L : List Int32) (f : Nat → Int32) (k : Nat) (x : Int32) (o : Nat) (fo : Nat → Int64) (hR : RI L f) (hk : k ≤ L.length) (hbad : x = 0 ∨ x ≤ -nI rn ∨ nI rn ≤ x) : Met l yL_insert wsL_insert mt_L_insert_2_0_rm (va_Pc [.ref x0, .int (nI 0), .int (nI k), .int x, .ref o] (gBT (dC, dI) [(cA, .int), (cL, .long)] [(x0, .inr (1, [.ref r0, .ref r1, .ref r2, .ref r3, .int (nI rn)])), (r0, .inr (0, [.ref a0, .int (nI L.length)])), (a0, .inl (cA, (100, .inl f))), (o, .inl (cL, (1, .inr (.inl fo))))] sz)) (gM (dC, dI) (some (.int 2)) (fun u : Unit => True) (fun u : Unit => [(x0, .inr (1, [.ref r0, .ref r1, .ref r2, .ref r3, .int (nI rn)])), (r0, .inr (0, [.ref a0, .int (nI L.length)])), (a0, .inl (cA, (100, .inl f))), (o, .inl (cL, (1, .inr (.inl fo))))]) (va_A [(x0, .inr (1, [.ref r0, .ref r1, .ref r2, .ref r3, .int (nI rn)])), (r0, .inr (0, [.ref a0, .int (nI L.length)])), (a0, .inl (cA, (100, .inl f))), (o, .inl (cL, (1, .inr (.inl fo))))] sz)) 1 6 (va_A [(x0, .inr (1, [.ref r0, .ref r1, .ref r2, .ref r3, .int (nI rn)])), (r0, .inr (0, [.ref a0, .int (nI L.length)])), (a0, .inl (cA, (100, .inl f))), (o, .inl (cL, (1, .inr (.inl fo))))] sz) := by
  refine g_ofH (cc := cL_insert) (maxL := 6) (ret := (some .int)) (by decide) rfl (Nat.le_of_ble_eq_true rfl) (fun p e s m below meth c ls hx hb hr hml hts hown hlocks htab hP hKl hl A hA hD hS hZ => ?_)
  have hK : va_K (dC, dI) vwCl [(cA, .int)] s := hKl.sub [0] rfl
  have hl : lv_has ls 6 [(0, .ref x0), (1, .int (nI 0)), (2, .int (nI k)), (3, .int x), (4, .ref o)] := hl
  refine lv_aload hx hb dL_insert_0 (lv_at hl 4 rfl) ?_
  refine lv_iconst (v := 0) hx hb dL_insert_2 (by decide) ?_
  refine lv_aload_n hx hb dL_insert_3 rfl (lv_at hl 0 rfl) ?_
  refine lv_iload_n hx hb dL_insert_4 rfl (lv_at hl 1 rfl) ?_
  refine lv_iload_n hx hb dL_insert_5 rfl (lv_at hl 2 rfl) ?_
  refine lv_iload_n hx hb dL_insert_6 rfl (lv_at hl 3 rfl) ?_
  refine g_HT (As := [.int (nI 0), .int (nI k), .int x]) (rest := [.int 0, .ref o]) (E := gIA) ⟨hx, hb, hml, hown, hts⟩ (th_X1_insert_2_0 l htr dC dI cA s.heap.size x0 r0 r1 r2 r3 rn a0 L f k x hR hk hbad) (cwV 3 hts gL_insert_X1_insert rfl rfl rfl hdX1_insert ⟨Nat.le_of_ble_eq_true rfl, Nat.le_of_ble_eq_true rfl⟩) hP hK hD hS hA hZ [0, 1, 2] (by decide) rfl (va_recv hK hP (ci := 1) (q0 := 0) rfl rfl) rfl hl.1 rfl (Nat.le_of_ble_eq_true rfl) dL_insert_7 (Nat.le_of_ble_eq_true rfl) (Nat.le_of_ble_eq_true rfl) (own := RL) hown [⟨0, 12, 15, 19⟩] ⟨0, 12, 19, 13⟩ [⟨0, 12, 23, 21⟩] (by rw [htab]; rfl) (fun z hz => by obtain rfl := List.mem_singleton.mp hz; exact ⟨by decide, gIO, (hts (.classLink RL 19 "java/lang/IndexOutOfBoundsException") (List.mem_of_getElem? (i := 1) rfl)), by decide +kernel⟩) (by decide) (by decide) (hts (.classLink RL 13 "java/lang/IllegalArgumentException") (List.mem_of_getElem? (i := 2) rfl)) (List.mem_of_getElem? (i := 0) rfl) (fun q9 H locs hP hS => ?_)
  refine lv_astore (lv' := [(5, .ref q9), (0, .ref x0), (1, .int (nI 0)), (2, .int (nI k)), (3, .int x), (4, .ref o)]) hx hb dL_insert_19 hl (by decide) rfl (fun ls hl => ?_)
  refine lv_iconst (v := 2) hx hb dL_insert_21 (by decide) ?_
  exact g_endMi hx hb hr hlocks hP hS dL_insert_22 () rfl rfl trivial

abbrev mt_L_insert_3_0_rm : Room := { frames := 8, cells := 1, slots := 6, locals := 135 }
set_option maxHeartbeats 4000000 in
set_option maxRecDepth 100000 in
theorem mt_L_insert_3_0 (l : Launch) (htr : l.stackTraces = false) (dC : Nat → ClassId) (dI : Nat → Nat → Nat) (cA cL : ClassId) (sz : Nat) (x0 : Nat) (r0 : Nat) (r1 : Nat) (r2 : Nat) (r3 : Nat) (rn : Nat) (a0 : Nat) (L : List Int32) (f : Nat → Int32) (k : Nat) (x : Int32) (o : Nat) (fo : Nat → Int64) (hR : RI L f) (hk : k ≤ L.length) (h0 : ¬ x = 0) (h1 : ¬ x ≤ -nI rn) (h2 : x < nI rn) (hk2 : 30 < L.length + 2) : Met l yL_insert wsL_insert mt_L_insert_3_0_rm (va_Pc [.ref x0, .int (nI 0), .int (nI k), .int x, .ref o] (gBT (dC, dI) [(cA, .int), (cL, .long)] [(x0, .inr (1, [.ref r0, .ref r1, .ref r2, .ref r3, .int (nI rn)])), (r0, .inr (0, [.ref a0, .int (nI L.length)])), (a0, .inl (cA, (100, .inl f))), (o, .inl (cL, (1, .inr (.inl fo))))] sz)) (gM (dC, dI) (some (.int 3)) (fun u : Unit => True) (fun u : Unit => [(x0, .inr (1, [.ref r0, .ref r1, .ref r2, .ref r3, .int (nI rn)])), (r0, .inr (0, [.ref a0, .int (nI L.length)])), (a0, .inl (cA, (100, .inl f))), (o, .inl (cL, (1, .inr (.inl fo))))]) (va_A [(x0, .inr (1, [.ref r0, .ref r1, .ref r2, .ref r3, .int (nI rn)])), (r0, .inr (0, [.ref a0, .int (nI L.length)])), (a0, .inl (cA, (100, .inl f))), (o, .inl (cL, (1, .inr (.inl fo))))] sz)) 1 6 (va_A [(x0, .inr (1, [.ref r0, .ref r1, .ref r2, .ref r3, .int (nI rn)])), (r0, .inr (0, [.ref a0, .int (nI L.length)])), (a0, .inl (cA, (100, .inl f))), (o, .inl (cL, (1, .inr (.inl fo))))] sz) := by
  refine g_ofH (cc := cL_insert) (maxL := 6) (ret := (some .int)) (by decide) rfl (Nat.le_of_ble_eq_true rfl) (fun p e s m below meth c ls hx hb hr hml hts hown hlocks htab hP hKl hl A hA hD hS hZ => ?_)
  have hK : va_K (dC, dI) vwCl [(cA, .int)] s := hKl.sub [0] rfl
  have hl : lv_has ls 6 [(0, .ref x0), (1, .int (nI 0)), (2, .int (nI k)), (3, .int x), (4, .ref o)] := hl
  refine lv_aload hx hb dL_insert_0 (lv_at hl 4 rfl) ?_
  refine lv_iconst (v := 0) hx hb dL_insert_2 (by decide) ?_
  refine lv_aload_n hx hb dL_insert_3 rfl (lv_at hl 0 rfl) ?_
  refine lv_iload_n hx hb dL_insert_4 rfl (lv_at hl 1 rfl) ?_
  refine lv_iload_n hx hb dL_insert_5 rfl (lv_at hl 2 rfl) ?_
  refine lv_iload_n hx hb dL_insert_6 rfl (lv_at hl 3 rfl) ?_
  refine g_HT (As := [.int (nI 0), .int (nI k), .int x]) (rest := [.int 0, .ref o]) (E := gIS) ⟨hx, hb, hml, hown, hts⟩ (th_X1_insert_3_0 l htr dC dI cA s.heap.size x0 r0 r1 r2 r3 rn a0 L f k x hR hk h0 h1 h2 hk2) (cwV 3 hts gL_insert_X1_insert rfl rfl rfl hdX1_insert ⟨Nat.le_of_ble_eq_true rfl, Nat.le_of_ble_eq_true rfl⟩) hP hK hD hS hA hZ [0, 1, 2] (by decide) rfl (va_recv hK hP (ci := 1) (q0 := 0) rfl rfl) rfl hl.1 rfl (Nat.le_of_ble_eq_true rfl) dL_insert_7 (Nat.le_of_ble_eq_true rfl) (Nat.le_of_ble_eq_true rfl) (own := RL) hown [⟨0, 12, 15, 19⟩, ⟨0, 12, 19, 13⟩] ⟨0, 12, 23, 21⟩ [] (by rw [htab]; rfl) (fun z hz => (List.mem_cons.mp hz).elim (fun h9 => by subst h9; exact ⟨by decide, gIO, (hts (.classLink RL 19 "java/lang/IndexOutOfBoundsException") (List.mem_of_getElem? (i := 1) rfl)), by decide +kernel⟩) (fun h9 => by obtain rfl := List.mem_singleton.mp h9; exact ⟨by decide, gIA, (hts (.classLink RL 13 "java/lang/IllegalArgumentException") (List.mem_of_getElem? (i := 2) rfl)), by decide +kernel⟩)) (by decide) (by decide) (hts (.classLink RL 21 "java/lang/IllegalStateException") (List.mem_of_getElem? (i := 3) rfl)) (List.mem_of_getElem? (i := 2) rfl) (fun q9 H locs hP hS => ?_)
  refine lv_astore (lv' := [(5, .ref q9), (0, .ref x0), (1, .int (nI 0)), (2, .int (nI k)), (3, .int x), (4, .ref o)]) hx hb dL_insert_23 hl (by decide) rfl (fun ls hl => ?_)
  refine lv_iconst (v := 3) hx hb dL_insert_25 (by decide) ?_
  exact g_endMi hx hb hr hlocks hP hS dL_insert_26 () rfl rfl trivial

abbrev mt_L_insert_1b_1_rm : Room := { frames := 8, cells := 1, slots := 6, locals := 135 }
set_option maxHeartbeats 4000000 in
set_option maxRecDepth 100000 in
theorem mt_L_insert_1b_1 (l : Launch) (htr : l.stackTraces = false) (dC : Nat → ClassId) (dI : Nat → Nat → Nat) (cA cL : ClassId) (sz : Nat) (x0 : Nat) (r0 : Nat) (r1 : Nat) (r2 : Nat) (r3 : Nat) (rn : Nat) (a1 : Nat) (L : List Int32) (f : Nat → Int32) (x : Int32) (y : Int32) (o : Nat) (fo : Nat → Int64) (hR : RI L f) (hbad : x < 0 ∨ nI (L.length + 1) ≤ x) : Met l yL_insert wsL_insert mt_L_insert_1b_1_rm (va_Pc [.ref x0, .int (nI 1), .int x, .int y, .ref o] (gBT (dC, dI) [(cA, .int), (cL, .long)] [(x0, .inr (1, [.ref r0, .ref r1, .ref r2, .ref r3, .int (nI rn)])), (r1, .inr (0, [.ref a1, .int (nI L.length)])), (a1, .inl (cA, (100, .inl f))), (o, .inl (cL, (1, .inr (.inl fo))))] sz)) (gM (dC, dI) (some (.int 1)) (fun u : Unit => True) (fun u : Unit => [(x0, .inr (1, [.ref r0, .ref r1, .ref r2, .ref r3, .int (nI rn)])), (r1, .inr (0, [.ref a1, .int (nI L.length)])), (a1, .inl (cA, (100, .inl f))), (o, .inl (cL, (1, .inr (.inl fo))))]) (va_A [(x0, .inr (1, [.ref r0, .ref r1, .ref r2, .ref r3, .int (nI rn)])), (r1, .inr (0, [.ref a1, .int (nI L.length)])), (a1, .inl (cA, (100, .inl f))), (o, .inl (cL, (1, .inr (.inl fo))))] sz)) 1 6 (va_A [(x0, .inr (1, [.ref r0, .ref r1, .ref r2, .ref r3, .int (nI rn)])), (r1, .inr (0, [.ref a1, .int (nI L.length)])), (a1, .inl (cA, (100, .inl f))), (o, .inl (cL, (1, .inr (.inl fo))))] sz) := by
  refine g_ofH (cc := cL_insert) (maxL := 6) (ret := (some .int)) (by decide) rfl (Nat.le_of_ble_eq_true rfl) (fun p e s m below meth c ls hx hb hr hml hts hown hlocks htab hP hKl hl A hA hD hS hZ => ?_)
  have hK : va_K (dC, dI) vwCl [(cA, .int)] s := hKl.sub [0] rfl
  have hl : lv_has ls 6 [(0, .ref x0), (1, .int (nI 1)), (2, .int x), (3, .int y), (4, .ref o)] := hl
  refine lv_aload hx hb dL_insert_0 (lv_at hl 4 rfl) ?_
  refine lv_iconst (v := 0) hx hb dL_insert_2 (by decide) ?_
  refine lv_aload_n hx hb dL_insert_3 rfl (lv_at hl 0 rfl) ?_
  refine lv_iload_n hx hb dL_insert_4 rfl (lv_at hl 1 rfl) ?_
  refine lv_iload_n hx hb dL_insert_5 rfl (lv_at hl 2 rfl) ?_
  refine lv_iload_n hx hb dL_insert_6 rfl (lv_at hl 3 rfl) ?_
  refine g_HT (As := [.int (nI 1), .int x, .int y]) (rest := [.int 0, .ref o]) (E := gIO) ⟨hx, hb, hml, hown, hts⟩ (th_X1_insert_1b_1 l htr dC dI cA s.heap.size x0 r0 r1 r2 r3 rn a1 L f x y hR hbad) (cwV 3 hts gL_insert_X1_insert rfl rfl rfl hdX1_insert ⟨Nat.le_of_ble_eq_true rfl, Nat.le_of_ble_eq_true rfl⟩) hP hK hD hS hA hZ [0, 1, 2] (by decide) rfl (va_recv hK hP (ci := 1) (q0 := 0) rfl rfl) rfl hl.1 rfl (Nat.le_of_ble_eq_true rfl) dL_insert_7 (Nat.le_of_ble_eq_true rfl) (Nat.le_of_ble_eq_true rfl) (own := RL) hown [] ⟨0, 12, 15, 19⟩ [⟨0, 12, 19, 13⟩, ⟨0, 12, 23, 21⟩] (by rw [htab]; rfl) (fun z hz => absurd hz List.not_mem_nil) (by decide) (by decide) (hts (.classLink RL 19 "java/lang/IndexOutOfBoundsException") (List.mem_of_getElem? (i := 1) rfl)) (List.mem_of_getElem? (i := 1) rfl) (fun q9 H locs hP hS => ?_)
  refine lv_astore (lv' := [(5, .ref q9), (0, .ref x0), (1, .int (nI 1)), (2, .int x), (3, .int y), (4, .ref o)]) hx hb dL_insert_15 hl (by decide) rfl (fun ls hl => ?_)
  refine lv_iconst (v := 1) hx hb dL_insert_17 (by decide) ?_
  exact g_endMi hx hb hr hlocks hP hS dL_insert_18 () rfl rfl trivial

abbrev mt_L_insert_2_1_rm : Room := { frames := 8, cells := 1, slots := 6, locals := 135 }
set_option maxHeartbeats 4000000 in
set_option maxRecDepth 100000 in
theorem mt_L_insert_2_1 (l : Launch) (htr : l.stackTraces = false) (dC : Nat → ClassId) (dI : Nat → Nat → Nat) (cA cL : ClassId) (sz : Nat) (x0 : Nat) (r0 : Nat) (r1 : Nat) (r2 : Nat) (r3 : Nat) (rn : Nat) (a1 : Nat) (L : List Int32) (f : Nat → Int32) (k : Nat) (x : Int32) (o : Nat) (fo : Nat → Int64) (hR : RI L f) (hk : k ≤ L.length) (hbad : x = 0 ∨ x ≤ -nI rn ∨ nI rn ≤ x) : Met l yL_insert wsL_insert mt_L_insert_2_1_rm (va_Pc [.ref x0, .int (nI 1), .int (nI k), .int x, .ref o] (gBT (dC, dI) [(cA, .int), (cL, .long)] [(x0, .inr (1, [.ref r0, .ref r1, .ref r2, .ref r3, .int (nI rn)])), (r1, .inr (0, [.ref a1, .int (nI L.length)])), (a1, .inl (cA, (100, .inl f))), (o, .inl (cL, (1, .inr (.inl fo))))] sz)) (gM (dC, dI) (some (.int 2)) (fun u : Unit => True) (fun u : Unit => [(x0, .inr (1, [.ref r0, .ref r1, .ref r2, .ref r3, .int (nI rn)])), (r1, .inr (0, [.ref a1, .int (nI L.length)])), (a1, .inl (cA, (100, .inl f))), (o, .inl (cL, (1, .inr (.inl fo))))]) (va_A [(x0, .inr (1, [.ref r0, .ref r1, .ref r2, .ref r3, .int (nI rn)])), (r1, .inr (0, [.ref a1, .int (nI L.length)])), (a1, .inl (cA, (100, .inl f))), (o, .inl (cL, (1, .inr (.inl fo))))] sz)) 1 6 (va_A [(x0, .inr (1, [.ref r0, .ref r1, .ref r2, .ref r3, .int (nI rn)])), (r1, .inr (0, [.ref a1, .int (nI L.length)])), (a1, .inl (cA, (100, .inl f))), (o, .inl (cL, (1, .inr (.inl fo))))] sz) := by
  refine g_ofH (cc := cL_insert) (maxL := 6) (ret := (some .int)) (by decide) rfl (Nat.le_of_ble_eq_true rfl) (fun p e s m below meth c ls hx hb hr hml hts hown hlocks htab hP hKl hl A hA hD hS hZ => ?_)
  have hK : va_K (dC, dI) vwCl [(cA, .int)] s := hKl.sub [0] rfl
  have hl : lv_has ls 6 [(0, .ref x0), (1, .int (nI 1)), (2, .int (nI k)), (3, .int x), (4, .ref o)] := hl
  refine lv_aload hx hb dL_insert_0 (lv_at hl 4 rfl) ?_
  refine lv_iconst (v := 0) hx hb dL_insert_2 (by decide) ?_
  refine lv_aload_n hx hb dL_insert_3 rfl (lv_at hl 0 rfl) ?_
  refine lv_iload_n hx hb dL_insert_4 rfl (lv_at hl 1 rfl) ?_
  refine lv_iload_n hx hb dL_insert_5 rfl (lv_at hl 2 rfl) ?_
  refine lv_iload_n hx hb dL_insert_6 rfl (lv_at hl 3 rfl) ?_
  refine g_HT (As := [.int (nI 1), .int (nI k), .int x]) (rest := [.int 0, .ref o]) (E := gIA) ⟨hx, hb, hml, hown, hts⟩ (th_X1_insert_2_1 l htr dC dI cA s.heap.size x0 r0 r1 r2 r3 rn a1 L f k x hR hk hbad) (cwV 3 hts gL_insert_X1_insert rfl rfl rfl hdX1_insert ⟨Nat.le_of_ble_eq_true rfl, Nat.le_of_ble_eq_true rfl⟩) hP hK hD hS hA hZ [0, 1, 2] (by decide) rfl (va_recv hK hP (ci := 1) (q0 := 0) rfl rfl) rfl hl.1 rfl (Nat.le_of_ble_eq_true rfl) dL_insert_7 (Nat.le_of_ble_eq_true rfl) (Nat.le_of_ble_eq_true rfl) (own := RL) hown [⟨0, 12, 15, 19⟩] ⟨0, 12, 19, 13⟩ [⟨0, 12, 23, 21⟩] (by rw [htab]; rfl) (fun z hz => by obtain rfl := List.mem_singleton.mp hz; exact ⟨by decide, gIO, (hts (.classLink RL 19 "java/lang/IndexOutOfBoundsException") (List.mem_of_getElem? (i := 1) rfl)), by decide +kernel⟩) (by decide) (by decide) (hts (.classLink RL 13 "java/lang/IllegalArgumentException") (List.mem_of_getElem? (i := 2) rfl)) (List.mem_of_getElem? (i := 0) rfl) (fun q9 H locs hP hS => ?_)
  refine lv_astore (lv' := [(5, .ref q9), (0, .ref x0), (1, .int (nI 1)), (2, .int (nI k)), (3, .int x), (4, .ref o)]) hx hb dL_insert_19 hl (by decide) rfl (fun ls hl => ?_)
  refine lv_iconst (v := 2) hx hb dL_insert_21 (by decide) ?_
  exact g_endMi hx hb hr hlocks hP hS dL_insert_22 () rfl rfl trivial

abbrev mt_L_insert_3_1_rm : Room := { frames := 8, cells := 1, slots := 6, locals := 135 }
set_option maxHeartbeats 4000000 in
set_option maxRecDepth 100000 in
theorem mt_L_insert_3_1 (l : Launch) (htr : l.stackTraces = false) (dC : Nat → ClassId) (dI : Nat → Nat → Nat) (cA cL : ClassId) (sz : Nat) (x0 : Nat) (r0 : Nat) (r1 : Nat) (r2 : Nat) (r3 : Nat) (rn : Nat) (a1 : Nat) (L : List Int32) (f : Nat → Int32) (k : Nat) (x : Int32) (o : Nat) (fo : Nat → Int64) (hR : RI L f) (hk : k ≤ L.length) (h0 : ¬ x = 0) (h1 : ¬ x ≤ -nI rn) (h2 : x < nI rn) (hk2 : 30 < L.length + 2) : Met l yL_insert wsL_insert mt_L_insert_3_1_rm (va_Pc [.ref x0, .int (nI 1), .int (nI k), .int x, .ref o] (gBT (dC, dI) [(cA, .int), (cL, .long)] [(x0, .inr (1, [.ref r0, .ref r1, .ref r2, .ref r3, .int (nI rn)])), (r1, .inr (0, [.ref a1, .int (nI L.length)])), (a1, .inl (cA, (100, .inl f))), (o, .inl (cL, (1, .inr (.inl fo))))] sz)) (gM (dC, dI) (some (.int 3)) (fun u : Unit => True) (fun u : Unit => [(x0, .inr (1, [.ref r0, .ref r1, .ref r2, .ref r3, .int (nI rn)])), (r1, .inr (0, [.ref a1, .int (nI L.length)])), (a1, .inl (cA, (100, .inl f))), (o, .inl (cL, (1, .inr (.inl fo))))]) (va_A [(x0, .inr (1, [.ref r0, .ref r1, .ref r2, .ref r3, .int (nI rn)])), (r1, .inr (0, [.ref a1, .int (nI L.length)])), (a1, .inl (cA, (100, .inl f))), (o, .inl (cL, (1, .inr (.inl fo))))] sz)) 1 6 (va_A [(x0, .inr (1, [.ref r0, .ref r1, .ref r2, .ref r3, .int (nI rn)])), (r1, .inr (0, [.ref a1, .int (nI L.length)])), (a1, .inl (cA, (100, .inl f))), (o, .inl (cL, (1, .inr (.inl fo))))] sz) := by
  refine g_ofH (cc := cL_insert) (maxL := 6) (ret := (some .int)) (by decide) rfl (Nat.le_of_ble_eq_true rfl) (fun p e s m below meth c ls hx hb hr hml hts hown hlocks htab hP hKl hl A hA hD hS hZ => ?_)
  have hK : va_K (dC, dI) vwCl [(cA, .int)] s := hKl.sub [0] rfl
  have hl : lv_has ls 6 [(0, .ref x0), (1, .int (nI 1)), (2, .int (nI k)), (3, .int x), (4, .ref o)] := hl
  refine lv_aload hx hb dL_insert_0 (lv_at hl 4 rfl) ?_
  refine lv_iconst (v := 0) hx hb dL_insert_2 (by decide) ?_
  refine lv_aload_n hx hb dL_insert_3 rfl (lv_at hl 0 rfl) ?_
  refine lv_iload_n hx hb dL_insert_4 rfl (lv_at hl 1 rfl) ?_
  refine lv_iload_n hx hb dL_insert_5 rfl (lv_at hl 2 rfl) ?_
  refine lv_iload_n hx hb dL_insert_6 rfl (lv_at hl 3 rfl) ?_
  refine g_HT (As := [.int (nI 1), .int (nI k), .int x]) (rest := [.int 0, .ref o]) (E := gIS) ⟨hx, hb, hml, hown, hts⟩ (th_X1_insert_3_1 l htr dC dI cA s.heap.size x0 r0 r1 r2 r3 rn a1 L f k x hR hk h0 h1 h2 hk2) (cwV 3 hts gL_insert_X1_insert rfl rfl rfl hdX1_insert ⟨Nat.le_of_ble_eq_true rfl, Nat.le_of_ble_eq_true rfl⟩) hP hK hD hS hA hZ [0, 1, 2] (by decide) rfl (va_recv hK hP (ci := 1) (q0 := 0) rfl rfl) rfl hl.1 rfl (Nat.le_of_ble_eq_true rfl) dL_insert_7 (Nat.le_of_ble_eq_true rfl) (Nat.le_of_ble_eq_true rfl) (own := RL) hown [⟨0, 12, 15, 19⟩, ⟨0, 12, 19, 13⟩] ⟨0, 12, 23, 21⟩ [] (by rw [htab]; rfl) (fun z hz => (List.mem_cons.mp hz).elim (fun h9 => by subst h9; exact ⟨by decide, gIO, (hts (.classLink RL 19 "java/lang/IndexOutOfBoundsException") (List.mem_of_getElem? (i := 1) rfl)), by decide +kernel⟩) (fun h9 => by obtain rfl := List.mem_singleton.mp h9; exact ⟨by decide, gIA, (hts (.classLink RL 13 "java/lang/IllegalArgumentException") (List.mem_of_getElem? (i := 2) rfl)), by decide +kernel⟩)) (by decide) (by decide) (hts (.classLink RL 21 "java/lang/IllegalStateException") (List.mem_of_getElem? (i := 3) rfl)) (List.mem_of_getElem? (i := 2) rfl) (fun q9 H locs hP hS => ?_)
  refine lv_astore (lv' := [(5, .ref q9), (0, .ref x0), (1, .int (nI 1)), (2, .int (nI k)), (3, .int x), (4, .ref o)]) hx hb dL_insert_23 hl (by decide) rfl (fun ls hl => ?_)
  refine lv_iconst (v := 3) hx hb dL_insert_25 (by decide) ?_
  exact g_endMi hx hb hr hlocks hP hS dL_insert_26 () rfl rfl trivial

abbrev mt_L_cut0_rm : Room := { frames := 4, cells := 0, slots := 0, locals := 95 }
set_option maxHeartbeats 4000000 in
set_option maxRecDepth 100000 in
theorem mt_L_cut0 (l : Launch) (htr : l.stackTraces = false) (dC : Nat → ClassId) (dI : Nat → Nat → Nat) (cA cL : ClassId) (sz : Nat) (x0 : Nat) (r0 : Nat) (r1 : Nat) (r2 : Nat) (r3 : Nat) (rn : Nat) (a0 : Nat) (L : List Int32) (f : Nat → Int32) (a3 : Nat) (n3 : Int32) (f3 : Nat → Int32) (b9 : Nat) (e9 : Nat) (o : Nat) (fo : Nat → Int64) (hR : RI L f) (he : enF L 0 = some e9) (hb9 : bg L e9 = some b9) (hk : (cutL L b9 e9).length ≤ 30) : Met l yL_cut wsL_cut mt_L_cut0_rm (va_Pc [.ref x0, .int (nI 0), .ref o] (gBT (dC, dI) [(cA, .int), (cL, .long)] [(x0, .inr (1, [.ref r0, .ref r1, .ref r2, .ref r3, .int (nI rn)])), (r0, .inr (0, [.ref a0, .int (nI L.length)])), (a0, .inl (cA, (100, .inl f))), (r3, .inr (0, [.ref a3, .int n3])), (a3, .inl (cA, (100, .inl f3))), (o, .inl (cL, (1, .inr (.inl fo))))] sz)) (gM (dC, dI) (some (.int 0)) (fun u : (Nat → Int32) × (Nat → Int32) => RI (cutL L b9 e9) u.1) (fun u : (Nat → Int32) × (Nat → Int32) => [(x0, .inr (1, [.ref r0, .ref r1, .ref r2, .ref r3, .int (nI rn)])), (r0, .inr (0, [.ref a0, .int (nI ((cutL L b9 e9).length))])), (a0, .inl (cA, (100, .inl u.1))), (r3, .inr (0, [.ref a3, .int (nI ((cutL L b9 e9).length))])), (a3, .inl (cA, (100, .inl u.2))), (o, .inl (cL, (1, .inr (.inl (vp_updL fo 0 (nI ((cutL L b9 e9).length)).toInt64)))))]) (va_A [(x0, .inr (1, [.ref r0, .ref r1, .ref r2, .ref r3, .int (nI rn)])), (r0, .inr (0, [.ref a0, .int (nI L.length)])), (a0, .inl (cA, (100, .inl f))), (r3, .inr (0, [.ref a3, .int n3])), (a3, .inl (cA, (100, .inl f3))), (o, .inl (cL, (1, .inr (.inl fo))))] sz)) 0 0 (va_A [(x0, .inr (1, [.ref r0, .ref r1, .ref r2, .ref r3, .int (nI rn)])), (r0, .inr (0, [.ref a0, .int (nI L.length)])), (a0, .inl (cA, (100, .inl f))), (r3, .inr (0, [.ref a3, .int n3])), (a3, .inl (cA, (100, .inl f3))), (o, .inl (cL, (1, .inr (.inl fo))))] sz) := by
  refine g_ofH (cc := cL_cut) (maxL := 4) (ret := (some .int)) (by decide) rfl (Nat.le_of_ble_eq_true rfl) (fun p e s m below meth c ls hx hb hr hml hts hown hlocks htab hP hKl hl A hA hD hS hZ => ?_)
  have hK : va_K (dC, dI) vwCl [(cA, .int)] s := hKl.sub [0] rfl
  have hl : lv_has ls 4 [(0, .ref x0), (1, .int (nI 0)), (2, .ref o)] := hl
  refine lv_aload_n hx hb dL_cut_0 rfl (lv_at hl 2 rfl) ?_
  refine lv_iconst (v := 0) hx hb dL_cut_1 (by decide) ?_
  refine lv_aload_n hx hb dL_cut_2 rfl (lv_at hl 0 rfl) ?_
  refine lv_iload_n hx hb dL_cut_3 rfl (lv_at hl 1 rfl) ?_
  refine g_MVi (As := [.int (nI 0)]) (rest := [.int 0, .ref o]) ⟨hx, hb, hml, hown, hts⟩ (mt_X1_cut0 l dC dI cA s.heap.size x0 r0 r1 r2 r3 rn a0 L f a3 n3 f3 b9 e9 hR he hb9 hk) (cwV 1 hts gL_cut_X1_cut rfl rfl rfl hdX1_cut ⟨Nat.le_of_ble_eq_true rfl, Nat.le_of_ble_eq_true rfl⟩) hP hK hD hS hA [0, 1, 2, 3, 4] (by decide) rfl (va_recv hK hP (ci := 1) (q0 := 0) rfl rfl) rfl hl.1 rfl (Nat.le_of_ble_eq_true rfl) dL_cut_4 (Nat.zero_le _) (Nat.zero_le _) (fun u9 => [(x0, .inr (1, [.ref r0, .ref r1, .ref r2, .ref r3, .int (nI rn)])), (r0, .inr (0, [.ref a0, .int (nI ((cutL L b9 e9).length))])), (a0, .inl (cA, (100, .inl u9.1))), (r3, .inr (0, [.ref a3, .int (nI ((cutL L b9 e9).length))])), (a3, .inl (cA, (100, .inl u9.2))), (o, .inl (cL, (1, .inr (.inl fo))))]) (fun _ => rfl) (fun _ => rfl) (fun u H locs hw_3 hP hD hS => ?_)
  obtain ⟨g1_1, g3_2⟩ := u
  have hw_3 : RI (cutL L b9 e9) g1_1 := hw_3
  have hP : va_P (dC, dI) vwCl [(x0, .inr (1, [.ref r0, .ref r1, .ref r2, .ref r3, .int (nI rn)])), (r0, .inr (0, [.ref a0, .int (nI ((cutL L b9 e9).length))])), (a0, .inl (cA, (100, .inl g1_1))), (r3, .inr (0, [.ref a3, .int (nI ((cutL L b9 e9).length))])), (a3, .inl (cA, (100, .inl g3_2))), (o, .inl (cL, (1, .inr (.inl fo))))] H := hP
  have hD : va_D A [(x0, .inr (1, [.ref r0, .ref r1, .ref r2, .ref r3, .int (nI rn)])), (r0, .inr (0, [.ref a0, .int (nI ((cutL L b9 e9).length))])), (a0, .inl (cA, (100, .inl g1_1))), (r3, .inr (0, [.ref a3, .int (nI ((cutL L b9 e9).length))])), (a3, .inl (cA, (100, .inl g3_2))), (o, .inl (cL, (1, .inr (.inl fo))))] := hD
  refine lv_i2l (v := (nI ((cutL L b9 e9).length)).toInt64) hx hb dL_cut_7 rfl ?_
  refine va_last hx hb hKl hP hD hS 5 1 rfl rfl (vp_in_nI (n := 0) (by omega) (by decide)) dL_cut_8 (fun H locs hP hD hS => ?_)
  rw [show (0 : Int32).toNatClampNeg = 0 from by decide] at hP hD
  have hP : va_P (dC, dI) vwCl [(x0, .inr (1, [.ref r0, .ref r1, .ref r2, .ref r3, .int (nI rn)])), (r0, .inr (0, [.ref a0, .int (nI ((cutL L b9 e9).length))])), (a0, .inl (cA, (100, .inl g1_1))), (r3, .inr (0, [.ref a3, .int (nI ((cutL L b9 e9).length))])), (a3, .inl (cA, (100, .inl g3_2))), (o, .inl (cL, (1, .inr (.inl (vp_updL fo 0 ((nI ((cutL L b9 e9).length)).toInt64))))))] H := hP
  have hD : va_D A [(x0, .inr (1, [.ref r0, .ref r1, .ref r2, .ref r3, .int (nI rn)])), (r0, .inr (0, [.ref a0, .int (nI ((cutL L b9 e9).length))])), (a0, .inl (cA, (100, .inl g1_1))), (r3, .inr (0, [.ref a3, .int (nI ((cutL L b9 e9).length))])), (a3, .inl (cA, (100, .inl g3_2))), (o, .inl (cL, (1, .inr (.inl (vp_updL fo 0 ((nI ((cutL L b9 e9).length)).toInt64))))))] := hD
  refine lv_goto (tgt := 18) hx hb dL_cut_9 (by decide) ?_
  refine lv_iconst (v := 0) hx hb dL_cut_18 (by decide) ?_
  exact g_endMi hx hb hr hlocks hP hS dL_cut_19 (g1_1, g3_2) rfl rfl hw_3

abbrev mt_L_cut1_rm : Room := { frames := 4, cells := 0, slots := 0, locals := 95 }
set_option maxHeartbeats 4000000 in
set_option maxRecDepth 100000 in
theorem mt_L_cut1 (l : Launch) (htr : l.stackTraces = false) (dC : Nat → ClassId) (dI : Nat → Nat → Nat) (cA cL : ClassId) (sz : Nat) (x0 : Nat) (r0 : Nat) (r1 : Nat) (r2 : Nat) (r3 : Nat) (rn : Nat) (a1 : Nat) (L : List Int32) (f : Nat → Int32) (a3 : Nat) (n3 : Int32) (f3 : Nat → Int32) (b9 : Nat) (e9 : Nat) (o : Nat) (fo : Nat → Int64) (hR : RI L f) (he : enF L 0 = some e9) (hb9 : bg L e9 = some b9) (hk : (cutL L b9 e9).length ≤ 30) : Met l yL_cut wsL_cut mt_L_cut1_rm (va_Pc [.ref x0, .int (nI 1), .ref o] (gBT (dC, dI) [(cA, .int), (cL, .long)] [(x0, .inr (1, [.ref r0, .ref r1, .ref r2, .ref r3, .int (nI rn)])), (r1, .inr (0, [.ref a1, .int (nI L.length)])), (a1, .inl (cA, (100, .inl f))), (r3, .inr (0, [.ref a3, .int n3])), (a3, .inl (cA, (100, .inl f3))), (o, .inl (cL, (1, .inr (.inl fo))))] sz)) (gM (dC, dI) (some (.int 0)) (fun u : (Nat → Int32) × (Nat → Int32) => RI (cutL L b9 e9) u.1) (fun u : (Nat → Int32) × (Nat → Int32) => [(x0, .inr (1, [.ref r0, .ref r1, .ref r2, .ref r3, .int (nI rn)])), (r1, .inr (0, [.ref a1, .int (nI ((cutL L b9 e9).length))])), (a1, .inl (cA, (100, .inl u.1))), (r3, .inr (0, [.ref a3, .int (nI ((cutL L b9 e9).length))])), (a3, .inl (cA, (100, .inl u.2))), (o, .inl (cL, (1, .inr (.inl (vp_updL fo 0 (nI ((cutL L b9 e9).length)).toInt64)))))]) (va_A [(x0, .inr (1, [.ref r0, .ref r1, .ref r2, .ref r3, .int (nI rn)])), (r1, .inr (0, [.ref a1, .int (nI L.length)])), (a1, .inl (cA, (100, .inl f))), (r3, .inr (0, [.ref a3, .int n3])), (a3, .inl (cA, (100, .inl f3))), (o, .inl (cL, (1, .inr (.inl fo))))] sz)) 0 0 (va_A [(x0, .inr (1, [.ref r0, .ref r1, .ref r2, .ref r3, .int (nI rn)])), (r1, .inr (0, [.ref a1, .int (nI L.length)])), (a1, .inl (cA, (100, .inl f))), (r3, .inr (0, [.ref a3, .int n3])), (a3, .inl (cA, (100, .inl f3))), (o, .inl (cL, (1, .inr (.inl fo))))] sz) := by
  refine g_ofH (cc := cL_cut) (maxL := 4) (ret := (some .int)) (by decide) rfl (Nat.le_of_ble_eq_true rfl) (fun p e s m below meth c ls hx hb hr hml hts hown hlocks htab hP hKl hl A hA hD hS hZ => ?_)
  have hK : va_K (dC, dI) vwCl [(cA, .int)] s := hKl.sub [0] rfl
  have hl : lv_has ls 4 [(0, .ref x0), (1, .int (nI 1)), (2, .ref o)] := hl
  refine lv_aload_n hx hb dL_cut_0 rfl (lv_at hl 2 rfl) ?_
  refine lv_iconst (v := 0) hx hb dL_cut_1 (by decide) ?_
  refine lv_aload_n hx hb dL_cut_2 rfl (lv_at hl 0 rfl) ?_
  refine lv_iload_n hx hb dL_cut_3 rfl (lv_at hl 1 rfl) ?_
  refine g_MVi (As := [.int (nI 1)]) (rest := [.int 0, .ref o]) ⟨hx, hb, hml, hown, hts⟩ (mt_X1_cut1 l dC dI cA s.heap.size x0 r0 r1 r2 r3 rn a1 L f a3 n3 f3 b9 e9 hR he hb9 hk) (cwV 1 hts gL_cut_X1_cut rfl rfl rfl hdX1_cut ⟨Nat.le_of_ble_eq_true rfl, Nat.le_of_ble_eq_true rfl⟩) hP hK hD hS hA [0, 1, 2, 3, 4] (by decide) rfl (va_recv hK hP (ci := 1) (q0 := 0) rfl rfl) rfl hl.1 rfl (Nat.le_of_ble_eq_true rfl) dL_cut_4 (Nat.zero_le _) (Nat.zero_le _) (fun u9 => [(x0, .inr (1, [.ref r0, .ref r1, .ref r2, .ref r3, .int (nI rn)])), (r1, .inr (0, [.ref a1, .int (nI ((cutL L b9 e9).length))])), (a1, .inl (cA, (100, .inl u9.1))), (r3, .inr (0, [.ref a3, .int (nI ((cutL L b9 e9).length))])), (a3, .inl (cA, (100, .inl u9.2))), (o, .inl (cL, (1, .inr (.inl fo))))]) (fun _ => rfl) (fun _ => rfl) (fun u H locs hw_3 hP hD hS => ?_)
  obtain ⟨g1_1, g3_2⟩ := u
  have hw_3 : RI (cutL L b9 e9) g1_1 := hw_3
  have hP : va_P (dC, dI) vwCl [(x0, .inr (1, [.ref r0, .ref r1, .ref r2, .ref r3, .int (nI rn)])), (r1, .inr (0, [.ref a1, .int (nI ((cutL L b9 e9).length))])), (a1, .inl (cA, (100, .inl g1_1))), (r3, .inr (0, [.ref a3, .int (nI ((cutL L b9 e9).length))])), (a3, .inl (cA, (100, .inl g3_2))), (o, .inl (cL, (1, .inr (.inl fo))))] H := hP
  have hD : va_D A [(x0, .inr (1, [.ref r0, .ref r1, .ref r2, .ref r3, .int (nI rn)])), (r1, .inr (0, [.ref a1, .int (nI ((cutL L b9 e9).length))])), (a1, .inl (cA, (100, .inl g1_1))), (r3, .inr (0, [.ref a3, .int (nI ((cutL L b9 e9).length))])), (a3, .inl (cA, (100, .inl g3_2))), (o, .inl (cL, (1, .inr (.inl fo))))] := hD
  refine lv_i2l (v := (nI ((cutL L b9 e9).length)).toInt64) hx hb dL_cut_7 rfl ?_
  refine va_last hx hb hKl hP hD hS 5 1 rfl rfl (vp_in_nI (n := 0) (by omega) (by decide)) dL_cut_8 (fun H locs hP hD hS => ?_)
  rw [show (0 : Int32).toNatClampNeg = 0 from by decide] at hP hD
  have hP : va_P (dC, dI) vwCl [(x0, .inr (1, [.ref r0, .ref r1, .ref r2, .ref r3, .int (nI rn)])), (r1, .inr (0, [.ref a1, .int (nI ((cutL L b9 e9).length))])), (a1, .inl (cA, (100, .inl g1_1))), (r3, .inr (0, [.ref a3, .int (nI ((cutL L b9 e9).length))])), (a3, .inl (cA, (100, .inl g3_2))), (o, .inl (cL, (1, .inr (.inl (vp_updL fo 0 ((nI ((cutL L b9 e9).length)).toInt64))))))] H := hP
  have hD : va_D A [(x0, .inr (1, [.ref r0, .ref r1, .ref r2, .ref r3, .int (nI rn)])), (r1, .inr (0, [.ref a1, .int (nI ((cutL L b9 e9).length))])), (a1, .inl (cA, (100, .inl g1_1))), (r3, .inr (0, [.ref a3, .int (nI ((cutL L b9 e9).length))])), (a3, .inl (cA, (100, .inl g3_2))), (o, .inl (cL, (1, .inr (.inl (vp_updL fo 0 ((nI ((cutL L b9 e9).length)).toInt64))))))] := hD
  refine lv_goto (tgt := 18) hx hb dL_cut_9 (by decide) ?_
  refine lv_iconst (v := 0) hx hb dL_cut_18 (by decide) ?_
  exact g_endMi hx hb hr hlocks hP hS dL_cut_19 (g1_1, g3_2) rfl rfl hw_3

abbrev mt_L_cut_1_rm : Room := { frames := 8, cells := 1, slots := 6, locals := 134 }
set_option maxHeartbeats 4000000 in
set_option maxRecDepth 100000 in
theorem mt_L_cut_1 (l : Launch) (htr : l.stackTraces = false) (dC : Nat → ClassId) (dI : Nat → Nat → Nat) (cA cL : ClassId) (sz : Nat) (x0 : Nat) (wd : Int32) (r0 : Nat) (r1 : Nat) (r2 : Nat) (r3 : Nat) (R9 : Int32) (o : Nat) (fo : Nat → Int64) (hbad : wd < 0 ∨ 1 < wd) : Met l yL_cut wsL_cut mt_L_cut_1_rm (va_Pc [.ref x0, .int wd, .ref o] (gBT (dC, dI) [(cA, .int), (cL, .long)] [(x0, .inr (1, [.ref r0, .ref r1, .ref r2, .ref r3, .int R9])), (o, .inl (cL, (1, .inr (.inl fo))))] sz)) (gM (dC, dI) (some (.int 1)) (fun u : Unit => True) (fun u : Unit => [(x0, .inr (1, [.ref r0, .ref r1, .ref r2, .ref r3, .int R9])), (o, .inl (cL, (1, .inr (.inl fo))))]) (va_A [(x0, .inr (1, [.ref r0, .ref r1, .ref r2, .ref r3, .int R9])), (o, .inl (cL, (1, .inr (.inl fo))))] sz)) 1 6 (va_A [(x0, .inr (1, [.ref r0, .ref r1, .ref r2, .ref r3, .int R9])), (o, .inl (cL, (1, .inr (.inl fo))))] sz) := by
  refine g_ofH (cc := cL_cut) (maxL := 4) (ret := (some .int)) (by decide) rfl (Nat.le_of_ble_eq_true rfl) (fun p e s m below meth c ls hx hb hr hml hts hown hlocks htab hP hKl hl A hA hD hS hZ => ?_)
  have hK : va_K (dC, dI) vwCl [(cA, .int)] s := hKl.sub [0] rfl
  have hl : lv_has ls 4 [(0, .ref x0), (1, .int wd), (2, .ref o)] := hl
  refine lv_aload_n hx hb dL_cut_0 rfl (lv_at hl 2 rfl) ?_
  refine lv_iconst (v := 0) hx hb dL_cut_1 (by decide) ?_
  refine lv_aload_n hx hb dL_cut_2 rfl (lv_at hl 0 rfl) ?_
  refine lv_iload_n hx hb dL_cut_3 rfl (lv_at hl 1 rfl) ?_
  refine g_HT (As := [.int wd]) (rest := [.int 0, .ref o]) (E := gIO) ⟨hx, hb, hml, hown, hts⟩ (th_X1_cut_1 l htr dC dI cA s.heap.size x0 wd hbad) (cwV 1 hts gL_cut_X1_cut rfl rfl rfl hdX1_cut ⟨Nat.le_of_ble_eq_true rfl, Nat.le_of_ble_eq_true rfl⟩) hP hK hD hS hA hZ [] (by decide) rfl (va_recv hK hP (ci := 1) (q0 := 0) rfl rfl) rfl hl.1 rfl (Nat.le_of_ble_eq_true rfl) dL_cut_4 (Nat.le_of_ble_eq_true rfl) (Nat.le_of_ble_eq_true rfl) (own := RL) hown [] ⟨0, 9, 12, 19⟩ [⟨0, 9, 15, 21⟩] (by rw [htab]; rfl) (fun z hz => absurd hz List.not_mem_nil) (by decide) (by decide) (hts (.classLink RL 19 "java/lang/IndexOutOfBoundsException") (List.mem_of_getElem? (i := 1) rfl)) (List.mem_of_getElem? (i := 1) rfl) (fun q9 H locs hP hS => ?_)
  refine lv_astore_n (lv' := [(3, .ref q9), (0, .ref x0), (1, .int wd), (2, .ref o)]) hx hb dL_cut_12 rfl hl (by decide) rfl (fun ls hl => ?_)
  refine lv_iconst (v := 1) hx hb dL_cut_13 (by decide) ?_
  exact g_endMi hx hb hr hlocks hP hS dL_cut_14 () rfl rfl trivial

abbrev mt_L_cut_2_0_rm : Room := { frames := 7, cells := 1, slots := 6, locals := 114 }
set_option maxHeartbeats 4000000 in
set_option maxRecDepth 100000 in
theorem mt_L_cut_2_0 (l : Launch) (htr : l.stackTraces = false) (dC : Nat → ClassId) (dI : Nat → Nat → Nat) (cA cL : ClassId) (sz : Nat) (x0 : Nat) (r0 : Nat) (r1 : Nat) (r2 : Nat) (r3 : Nat) (rn : Nat) (a0 : Nat) (L : List Int32) (f : Nat → Int32) (o : Nat) (fo : Nat → Int64) (hR : RI L f) (he : enF L 0 = none) : Met l yL_cut wsL_cut mt_L_cut_2_0_rm (va_Pc [.ref x0, .int (nI 0), .ref o] (gBT (dC, dI) [(cA, .int), (cL, .long)] [(x0, .inr (1, [.ref r0, .ref r1, .ref r2, .ref r3, .int (nI rn)])), (r0, .inr (0, [.ref a0, .int (nI L.length)])), (a0, .inl (cA, (100, .inl f))), (o, .inl (cL, (1, .inr (.inl fo))))] sz)) (gM (dC, dI) (some (.int 2)) (fun u : Unit => True) (fun u : Unit => [(x0, .inr (1, [.ref r0, .ref r1, .ref r2, .ref r3, .int (nI rn)])), (r0, .inr (0, [.ref a0, .int (nI L.length)])), (a0, .inl (cA, (100, .inl f))), (o, .inl (cL, (1, .inr (.inl fo))))]) (va_A [(x0, .inr (1, [.ref r0, .ref r1, .ref r2, .ref r3, .int (nI rn)])), (r0, .inr (0, [.ref a0, .int (nI L.length)])), (a0, .inl (cA, (100, .inl f))), (o, .inl (cL, (1, .inr (.inl fo))))] sz)) 1 6 (va_A [(x0, .inr (1, [.ref r0, .ref r1, .ref r2, .ref r3, .int (nI rn)])), (r0, .inr (0, [.ref a0, .int (nI L.length)])), (a0, .inl (cA, (100, .inl f))), (o, .inl (cL, (1, .inr (.inl fo))))] sz) := by
  refine g_ofH (cc := cL_cut) (maxL := 4) (ret := (some .int)) (by decide) rfl (Nat.le_of_ble_eq_true rfl) (fun p e s m below meth c ls hx hb hr hml hts hown hlocks htab hP hKl hl A hA hD hS hZ => ?_)
  have hK : va_K (dC, dI) vwCl [(cA, .int)] s := hKl.sub [0] rfl
  have hl : lv_has ls 4 [(0, .ref x0), (1, .int (nI 0)), (2, .ref o)] := hl
  refine lv_aload_n hx hb dL_cut_0 rfl (lv_at hl 2 rfl) ?_
  refine lv_iconst (v := 0) hx hb dL_cut_1 (by decide) ?_
  refine lv_aload_n hx hb dL_cut_2 rfl (lv_at hl 0 rfl) ?_
  refine lv_iload_n hx hb dL_cut_3 rfl (lv_at hl 1 rfl) ?_
  refine g_HT (As := [.int (nI 0)]) (rest := [.int 0, .ref o]) (E := gIS) ⟨hx, hb, hml, hown, hts⟩ (th_X1_cut_2_0 l htr dC dI cA s.heap.size x0 r0 r1 r2 r3 rn a0 L f hR he) (cwV 1 hts gL_cut_X1_cut rfl rfl rfl hdX1_cut ⟨Nat.le_of_ble_eq_true rfl, Nat.le_of_ble_eq_true rfl⟩) hP hK hD hS hA hZ [0, 1, 2] (by decide) rfl (va_recv hK hP (ci := 1) (q0 := 0) rfl rfl) rfl hl.1 rfl (Nat.le_of_ble_eq_true rfl) dL_cut_4 (Nat.le_of_ble_eq_true rfl) (Nat.le_of_ble_eq_true rfl) (own := RL) hown [⟨0, 9, 12, 19⟩] ⟨0, 9, 15, 21⟩ [] (by rw [htab]; rfl) (fun z hz => by obtain rfl := List.mem_singleton.mp hz; exact ⟨by decide, gIO, (hts (.classLink RL 19 "java/lang/IndexOutOfBoundsException") (List.mem_of_getElem? (i := 1) rfl)), by decide +kernel⟩) (by decide) (by decide) (hts (.classLink RL 21 "java/lang/IllegalStateException") (List.mem_of_getElem? (i := 2) rfl)) (List.mem_of_getElem? (i := 2) rfl) (fun q9 H locs hP hS => ?_)
  refine lv_astore_n (lv' := [(3, .ref q9), (0, .ref x0), (1, .int (nI 0)), (2, .ref o)]) hx hb dL_cut_15 rfl hl (by decide) rfl (fun ls hl => ?_)
  refine lv_iconst (v := 2) hx hb dL_cut_16 (by decide) ?_
  exact g_endMi hx hb hr hlocks hP hS dL_cut_17 () rfl rfl trivial

abbrev mt_L_cut_2b_0_rm : Room := { frames := 8, cells := 1, slots := 6, locals := 135 }
set_option maxHeartbeats 4000000 in
set_option maxRecDepth 100000 in
theorem mt_L_cut_2b_0 (l : Launch) (htr : l.stackTraces = false) (dC : Nat → ClassId) (dI : Nat → Nat → Nat) (cA cL : ClassId) (sz : Nat) (x0 : Nat) (r0 : Nat) (r1 : Nat) (r2 : Nat) (r3 : Nat) (rn : Nat) (a0 : Nat) (L : List Int32) (f : Nat → Int32) (b9 : Nat) (e9 : Nat) (o : Nat) (fo : Nat → Int64) (hR : RI L f) (he : enF L 0 = some e9) (hb9 : bg L e9 = some b9) (hk : 30 < (cutL L b9 e9).length) : Met l yL_cut wsL_cut mt_L_cut_2b_0_rm (va_Pc [.ref x0, .int (nI 0), .ref o] (gBT (dC, dI) [(cA, .int), (cL, .long)] [(x0, .inr (1, [.ref r0, .ref r1, .ref r2, .ref r3, .int (nI rn)])), (r0, .inr (0, [.ref a0, .int (nI L.length)])), (a0, .inl (cA, (100, .inl f))), (o, .inl (cL, (1, .inr (.inl fo))))] sz)) (gM (dC, dI) (some (.int 2)) (fun u : Unit => True) (fun u : Unit => [(x0, .inr (1, [.ref r0, .ref r1, .ref r2, .ref r3, .int (nI rn)])), (r0, .inr (0, [.ref a0, .int (nI L.length)])), (a0, .inl (cA, (100, .inl f))), (o, .inl (cL, (1, .inr (.inl fo))))]) (va_A [(x0, .inr (1, [.ref r0, .ref r1, .ref r2, .ref r3, .int (nI rn)])), (r0, .inr (0, [.ref a0, .int (nI L.length)])), (a0, .inl (cA, (100, .inl f))), (o, .inl (cL, (1, .inr (.inl fo))))] sz)) 1 6 (va_A [(x0, .inr (1, [.ref r0, .ref r1, .ref r2, .ref r3, .int (nI rn)])), (r0, .inr (0, [.ref a0, .int (nI L.length)])), (a0, .inl (cA, (100, .inl f))), (o, .inl (cL, (1, .inr (.inl fo))))] sz) := by
  refine g_ofH (cc := cL_cut) (maxL := 4) (ret := (some .int)) (by decide) rfl (Nat.le_of_ble_eq_true rfl) (fun p e s m below meth c ls hx hb hr hml hts hown hlocks htab hP hKl hl A hA hD hS hZ => ?_)
  have hK : va_K (dC, dI) vwCl [(cA, .int)] s := hKl.sub [0] rfl
  have hl : lv_has ls 4 [(0, .ref x0), (1, .int (nI 0)), (2, .ref o)] := hl
  refine lv_aload_n hx hb dL_cut_0 rfl (lv_at hl 2 rfl) ?_
  refine lv_iconst (v := 0) hx hb dL_cut_1 (by decide) ?_
  refine lv_aload_n hx hb dL_cut_2 rfl (lv_at hl 0 rfl) ?_
  refine lv_iload_n hx hb dL_cut_3 rfl (lv_at hl 1 rfl) ?_
  refine g_HT (As := [.int (nI 0)]) (rest := [.int 0, .ref o]) (E := gIS) ⟨hx, hb, hml, hown, hts⟩ (th_X1_cut_2b_0 l htr dC dI cA s.heap.size x0 r0 r1 r2 r3 rn a0 L f b9 e9 hR he hb9 hk) (cwV 1 hts gL_cut_X1_cut rfl rfl rfl hdX1_cut ⟨Nat.le_of_ble_eq_true rfl, Nat.le_of_ble_eq_true rfl⟩) hP hK hD hS hA hZ [0, 1, 2] (by decide) rfl (va_recv hK hP (ci := 1) (q0 := 0) rfl rfl) rfl hl.1 rfl (Nat.le_of_ble_eq_true rfl) dL_cut_4 (Nat.le_of_ble_eq_true rfl) (Nat.le_of_ble_eq_true rfl) (own := RL) hown [⟨0, 9, 12, 19⟩] ⟨0, 9, 15, 21⟩ [] (by rw [htab]; rfl) (fun z hz => by obtain rfl := List.mem_singleton.mp hz; exact ⟨by decide, gIO, (hts (.classLink RL 19 "java/lang/IndexOutOfBoundsException") (List.mem_of_getElem? (i := 1) rfl)), by decide +kernel⟩) (by decide) (by decide) (hts (.classLink RL 21 "java/lang/IllegalStateException") (List.mem_of_getElem? (i := 2) rfl)) (List.mem_of_getElem? (i := 2) rfl) (fun q9 H locs hP hS => ?_)
  refine lv_astore_n (lv' := [(3, .ref q9), (0, .ref x0), (1, .int (nI 0)), (2, .ref o)]) hx hb dL_cut_15 rfl hl (by decide) rfl (fun ls hl => ?_)
  refine lv_iconst (v := 2) hx hb dL_cut_16 (by decide) ?_
  exact g_endMi hx hb hr hlocks hP hS dL_cut_17 () rfl rfl trivial

abbrev mt_L_cut_2_1_rm : Room := { frames := 7, cells := 1, slots := 6, locals := 114 }
set_option maxHeartbeats 4000000 in
set_option maxRecDepth 100000 in
theorem mt_L_cut_2_1 (l : Launch) (htr : l.stackTraces = false) (dC : Nat → ClassId) (dI : Nat → Nat → Nat) (cA cL : ClassId) (sz : Nat) (x0 : Nat) (r0 : Nat) (r1 : Nat) (r2 : Nat) (r3 : Nat) (rn : Nat) (a1 : Nat) (L : List Int32) (f : Nat → Int32) (o : Nat) (fo : Nat → Int64) (hR : RI L f) (he : enF L 0 = none) : Met l yL_cut wsL_cut mt_L_cut_2_1_rm (va_Pc [.ref x0, .int (nI 1), .ref o] (gBT (dC, dI) [(cA, .int), (cL, .long)] [(x0, .inr (1, [.ref r0, .ref r1, .ref r2, .ref r3, .int (nI rn)])), (r1, .inr (0, [.ref a1, .int (nI L.length)])), (a1, .inl (cA, (100, .inl f))), (o, .inl (cL, (1, .inr (.inl fo))))] sz)) (gM (dC, dI) (some (.int 2)) (fun u : Unit => True) (fun u : Unit => [(x0, .inr (1, [.ref r0, .ref r1, .ref r2, .ref r3, .int (nI rn)])), (r1, .inr (0, [.ref a1, .int (nI L.length)])), (a1, .inl (cA, (100, .inl f))), (o, .inl (cL, (1, .inr (.inl fo))))]) (va_A [(x0, .inr (1, [.ref r0, .ref r1, .ref r2, .ref r3, .int (nI rn)])), (r1, .inr (0, [.ref a1, .int (nI L.length)])), (a1, .inl (cA, (100, .inl f))), (o, .inl (cL, (1, .inr (.inl fo))))] sz)) 1 6 (va_A [(x0, .inr (1, [.ref r0, .ref r1, .ref r2, .ref r3, .int (nI rn)])), (r1, .inr (0, [.ref a1, .int (nI L.length)])), (a1, .inl (cA, (100, .inl f))), (o, .inl (cL, (1, .inr (.inl fo))))] sz) := by
  refine g_ofH (cc := cL_cut) (maxL := 4) (ret := (some .int)) (by decide) rfl (Nat.le_of_ble_eq_true rfl) (fun p e s m below meth c ls hx hb hr hml hts hown hlocks htab hP hKl hl A hA hD hS hZ => ?_)
  have hK : va_K (dC, dI) vwCl [(cA, .int)] s := hKl.sub [0] rfl
  have hl : lv_has ls 4 [(0, .ref x0), (1, .int (nI 1)), (2, .ref o)] := hl
  refine lv_aload_n hx hb dL_cut_0 rfl (lv_at hl 2 rfl) ?_
  refine lv_iconst (v := 0) hx hb dL_cut_1 (by decide) ?_
  refine lv_aload_n hx hb dL_cut_2 rfl (lv_at hl 0 rfl) ?_
  refine lv_iload_n hx hb dL_cut_3 rfl (lv_at hl 1 rfl) ?_
  refine g_HT (As := [.int (nI 1)]) (rest := [.int 0, .ref o]) (E := gIS) ⟨hx, hb, hml, hown, hts⟩ (th_X1_cut_2_1 l htr dC dI cA s.heap.size x0 r0 r1 r2 r3 rn a1 L f hR he) (cwV 1 hts gL_cut_X1_cut rfl rfl rfl hdX1_cut ⟨Nat.le_of_ble_eq_true rfl, Nat.le_of_ble_eq_true rfl⟩) hP hK hD hS hA hZ [0, 1, 2] (by decide) rfl (va_recv hK hP (ci := 1) (q0 := 0) rfl rfl) rfl hl.1 rfl (Nat.le_of_ble_eq_true rfl) dL_cut_4 (Nat.le_of_ble_eq_true rfl) (Nat.le_of_ble_eq_true rfl) (own := RL) hown [⟨0, 9, 12, 19⟩] ⟨0, 9, 15, 21⟩ [] (by rw [htab]; rfl) (fun z hz => by obtain rfl := List.mem_singleton.mp hz; exact ⟨by decide, gIO, (hts (.classLink RL 19 "java/lang/IndexOutOfBoundsException") (List.mem_of_getElem? (i := 1) rfl)), by decide +kernel⟩) (by decide) (by decide) (hts (.classLink RL 21 "java/lang/IllegalStateException") (List.mem_of_getElem? (i := 2) rfl)) (List.mem_of_getElem? (i := 2) rfl) (fun q9 H locs hP hS => ?_)
  refine lv_astore_n (lv' := [(3, .ref q9), (0, .ref x0), (1, .int (nI 1)), (2, .ref o)]) hx hb dL_cut_15 rfl hl (by decide) rfl (fun ls hl => ?_)
  refine lv_iconst (v := 2) hx hb dL_cut_16 (by decide) ?_
  exact g_endMi hx hb hr hlocks hP hS dL_cut_17 () rfl rfl trivial

abbrev mt_L_cut_2b_1_rm : Room := { frames := 8, cells := 1, slots := 6, locals := 135 }
set_option maxHeartbeats 4000000 in
set_option maxRecDepth 100000 in
theorem mt_L_cut_2b_1 (l : Launch) (htr : l.stackTraces = false) (dC : Nat → ClassId) (dI : Nat → Nat → Nat) (cA cL : ClassId) (sz : Nat) (x0 : Nat) (r0 : Nat) (r1 : Nat) (r2 : Nat) (r3 : Nat) (rn : Nat) (a1 : Nat) (L : List Int32) (f : Nat → Int32) (b9 : Nat) (e9 : Nat) (o : Nat) (fo : Nat → Int64) (hR : RI L f) (he : enF L 0 = some e9) (hb9 : bg L e9 = some b9) (hk : 30 < (cutL L b9 e9).length) : Met l yL_cut wsL_cut mt_L_cut_2b_1_rm (va_Pc [.ref x0, .int (nI 1), .ref o] (gBT (dC, dI) [(cA, .int), (cL, .long)] [(x0, .inr (1, [.ref r0, .ref r1, .ref r2, .ref r3, .int (nI rn)])), (r1, .inr (0, [.ref a1, .int (nI L.length)])), (a1, .inl (cA, (100, .inl f))), (o, .inl (cL, (1, .inr (.inl fo))))] sz)) (gM (dC, dI) (some (.int 2)) (fun u : Unit => True) (fun u : Unit => [(x0, .inr (1, [.ref r0, .ref r1, .ref r2, .ref r3, .int (nI rn)])), (r1, .inr (0, [.ref a1, .int (nI L.length)])), (a1, .inl (cA, (100, .inl f))), (o, .inl (cL, (1, .inr (.inl fo))))]) (va_A [(x0, .inr (1, [.ref r0, .ref r1, .ref r2, .ref r3, .int (nI rn)])), (r1, .inr (0, [.ref a1, .int (nI L.length)])), (a1, .inl (cA, (100, .inl f))), (o, .inl (cL, (1, .inr (.inl fo))))] sz)) 1 6 (va_A [(x0, .inr (1, [.ref r0, .ref r1, .ref r2, .ref r3, .int (nI rn)])), (r1, .inr (0, [.ref a1, .int (nI L.length)])), (a1, .inl (cA, (100, .inl f))), (o, .inl (cL, (1, .inr (.inl fo))))] sz) := by
  refine g_ofH (cc := cL_cut) (maxL := 4) (ret := (some .int)) (by decide) rfl (Nat.le_of_ble_eq_true rfl) (fun p e s m below meth c ls hx hb hr hml hts hown hlocks htab hP hKl hl A hA hD hS hZ => ?_)
  have hK : va_K (dC, dI) vwCl [(cA, .int)] s := hKl.sub [0] rfl
  have hl : lv_has ls 4 [(0, .ref x0), (1, .int (nI 1)), (2, .ref o)] := hl
  refine lv_aload_n hx hb dL_cut_0 rfl (lv_at hl 2 rfl) ?_
  refine lv_iconst (v := 0) hx hb dL_cut_1 (by decide) ?_
  refine lv_aload_n hx hb dL_cut_2 rfl (lv_at hl 0 rfl) ?_
  refine lv_iload_n hx hb dL_cut_3 rfl (lv_at hl 1 rfl) ?_
  refine g_HT (As := [.int (nI 1)]) (rest := [.int 0, .ref o]) (E := gIS) ⟨hx, hb, hml, hown, hts⟩ (th_X1_cut_2b_1 l htr dC dI cA s.heap.size x0 r0 r1 r2 r3 rn a1 L f b9 e9 hR he hb9 hk) (cwV 1 hts gL_cut_X1_cut rfl rfl rfl hdX1_cut ⟨Nat.le_of_ble_eq_true rfl, Nat.le_of_ble_eq_true rfl⟩) hP hK hD hS hA hZ [0, 1, 2] (by decide) rfl (va_recv hK hP (ci := 1) (q0 := 0) rfl rfl) rfl hl.1 rfl (Nat.le_of_ble_eq_true rfl) dL_cut_4 (Nat.le_of_ble_eq_true rfl) (Nat.le_of_ble_eq_true rfl) (own := RL) hown [⟨0, 9, 12, 19⟩] ⟨0, 9, 15, 21⟩ [] (by rw [htab]; rfl) (fun z hz => by obtain rfl := List.mem_singleton.mp hz; exact ⟨by decide, gIO, (hts (.classLink RL 19 "java/lang/IndexOutOfBoundsException") (List.mem_of_getElem? (i := 1) rfl)), by decide +kernel⟩) (by decide) (by decide) (hts (.classLink RL 21 "java/lang/IllegalStateException") (List.mem_of_getElem? (i := 2) rfl)) (List.mem_of_getElem? (i := 2) rfl) (fun q9 H locs hP hS => ?_)
  refine lv_astore_n (lv' := [(3, .ref q9), (0, .ref x0), (1, .int (nI 1)), (2, .ref o)]) hx hb dL_cut_15 rfl hl (by decide) rfl (fun ls hl => ?_)
  refine lv_iconst (v := 2) hx hb dL_cut_16 (by decide) ?_
  exact g_endMi hx hb hr hlocks hP hS dL_cut_17 () rfl rfl trivial

abbrev mt_L_letter0_rm : Room := { frames := 2, cells := 0, slots := 0, locals := 44 }
set_option maxHeartbeats 4000000 in
set_option maxRecDepth 100000 in
theorem mt_L_letter0 (l : Launch) (htr : l.stackTraces = false) (dC : Nat → ClassId) (dI : Nat → Nat → Nat) (cA cL : ClassId) (sz : Nat) (x0 : Nat) (r0 : Nat) (r1 : Nat) (r2 : Nat) (r3 : Nat) (rn : Nat) (a0 : Nat) (L : List Int32) (f : Nat → Int32) (k : Nat) (o : Nat) (fo : Nat → Int64) (hR : RI L f) (hk : k < L.length) : Met l yL_letter wsL_letter mt_L_letter0_rm (va_Pc [.ref x0, .int (nI 0), .int (nI k), .ref o] (gBT (dC, dI) [(cA, .int), (cL, .long)] [(x0, .inr (1, [.ref r0, .ref r1, .ref r2, .ref r3, .int (nI rn)])), (r0, .inr (0, [.ref a0, .int (nI L.length)])), (a0, .inl (cA, (100, .inl f))), (o, .inl (cL, (1, .inr (.inl fo))))] sz)) (gM (dC, dI) (some (.int 0)) (fun u : Unit => True) (fun u : Unit => [(x0, .inr (1, [.ref r0, .ref r1, .ref r2, .ref r3, .int (nI rn)])), (r0, .inr (0, [.ref a0, .int (nI L.length)])), (a0, .inl (cA, (100, .inl f))), (o, .inl (cL, (1, .inr (.inl (vp_updL fo 0 (atL L k).toInt64)))))]) (va_A [(x0, .inr (1, [.ref r0, .ref r1, .ref r2, .ref r3, .int (nI rn)])), (r0, .inr (0, [.ref a0, .int (nI L.length)])), (a0, .inl (cA, (100, .inl f))), (o, .inl (cL, (1, .inr (.inl fo))))] sz)) 0 0 (va_A [(x0, .inr (1, [.ref r0, .ref r1, .ref r2, .ref r3, .int (nI rn)])), (r0, .inr (0, [.ref a0, .int (nI L.length)])), (a0, .inl (cA, (100, .inl f))), (o, .inl (cL, (1, .inr (.inl fo))))] sz) := by
  refine g_ofH (cc := cL_letter) (maxL := 5) (ret := (some .int)) (by decide) rfl (Nat.le_of_ble_eq_true rfl) (fun p e s m below meth c ls hx hb hr hml hts hown hlocks htab hP hKl hl A hA hD hS hZ => ?_)
  have hK : va_K (dC, dI) vwCl [(cA, .int)] s := hKl.sub [0] rfl
  have hl : lv_has ls 5 [(0, .ref x0), (1, .int (nI 0)), (2, .int (nI k)), (3, .ref o)] := hl
  refine lv_aload_n hx hb dL_letter_0 rfl (lv_at hl 3 rfl) ?_
  refine lv_iconst (v := 0) hx hb dL_letter_1 (by decide) ?_
  refine lv_aload_n hx hb dL_letter_2 rfl (lv_at hl 0 rfl) ?_
  refine lv_iload_n hx hb dL_letter_3 rfl (lv_at hl 1 rfl) ?_
  refine lv_iload_n hx hb dL_letter_4 rfl (lv_at hl 2 rfl) ?_
  refine g_RVi (As := [.int (nI 0), .int (nI k)]) (rest := [.int 0, .ref o]) ⟨hx, hb, hml, hown, hts⟩ (mt_X1_letter0 l dC dI cA s.heap.size x0 r0 r1 r2 r3 rn a0 L f k hR hk) (cwV 2 hts gL_letter_X1_letter rfl rfl rfl hdX1_letter ⟨Nat.le_of_ble_eq_true rfl, Nat.le_of_ble_eq_true rfl⟩) hP hK hD [0, 1, 2] (by decide) rfl (va_recv hK hP (ci := 1) (q0 := 0) rfl rfl) rfl hl.1 rfl (Nat.le_of_ble_eq_true rfl) dL_letter_5 (Nat.zero_le _) (Nat.zero_le _) ?_
  refine lv_i2l (v := (atL L k).toInt64) hx hb dL_letter_8 rfl ?_
  refine va_last hx hb hKl hP hD hS 3 1 rfl rfl (vp_in_nI (n := 0) (by omega) (by decide)) dL_letter_9 (fun H locs hP hD hS => ?_)
  rw [show (0 : Int32).toNatClampNeg = 0 from by decide] at hP hD
  have hP : va_P (dC, dI) vwCl [(x0, .inr (1, [.ref r0, .ref r1, .ref r2, .ref r3, .int (nI rn)])), (r0, .inr (0, [.ref a0, .int (nI L.length)])), (a0, .inl (cA, (100, .inl f))), (o, .inl (cL, (1, .inr (.inl (vp_updL fo 0 ((atL L k).toInt64))))))] H := hP
  have hD : va_D A [(x0, .inr (1, [.ref r0, .ref r1, .ref r2, .ref r3, .int (nI rn)])), (r0, .inr (0, [.ref a0, .int (nI L.length)])), (a0, .inl (cA, (100, .inl f))), (o, .inl (cL, (1, .inr (.inl (vp_updL fo 0 ((atL L k).toInt64))))))] := hD
  refine lv_goto (tgt := 17) hx hb dL_letter_10 (by decide) ?_
  refine lv_iconst (v := 0) hx hb dL_letter_17 (by decide) ?_
  exact g_endMi hx hb hr hlocks hP hS dL_letter_18 () rfl rfl trivial

abbrev mt_L_letter1_rm : Room := { frames := 2, cells := 0, slots := 0, locals := 44 }
set_option maxHeartbeats 4000000 in
set_option maxRecDepth 100000 in
theorem mt_L_letter1 (l : Launch) (htr : l.stackTraces = false) (dC : Nat → ClassId) (dI : Nat → Nat → Nat) (cA cL : ClassId) (sz : Nat) (x0 : Nat) (r0 : Nat) (r1 : Nat) (r2 : Nat) (r3 : Nat) (rn : Nat) (a1 : Nat) (L : List Int32) (f : Nat → Int32) (k : Nat) (o : Nat) (fo : Nat → Int64) (hR : RI L f) (hk : k < L.length) : Met l yL_letter wsL_letter mt_L_letter1_rm (va_Pc [.ref x0, .int (nI 1), .int (nI k), .ref o] (gBT (dC, dI) [(cA, .int), (cL, .long)] [(x0, .inr (1, [.ref r0, .ref r1, .ref r2, .ref r3, .int (nI rn)])), (r1, .inr (0, [.ref a1, .int (nI L.length)])), (a1, .inl (cA, (100, .inl f))), (o, .inl (cL, (1, .inr (.inl fo))))] sz)) (gM (dC, dI) (some (.int 0)) (fun u : Unit => True) (fun u : Unit => [(x0, .inr (1, [.ref r0, .ref r1, .ref r2, .ref r3, .int (nI rn)])), (r1, .inr (0, [.ref a1, .int (nI L.length)])), (a1, .inl (cA, (100, .inl f))), (o, .inl (cL, (1, .inr (.inl (vp_updL fo 0 (atL L k).toInt64)))))]) (va_A [(x0, .inr (1, [.ref r0, .ref r1, .ref r2, .ref r3, .int (nI rn)])), (r1, .inr (0, [.ref a1, .int (nI L.length)])), (a1, .inl (cA, (100, .inl f))), (o, .inl (cL, (1, .inr (.inl fo))))] sz)) 0 0 (va_A [(x0, .inr (1, [.ref r0, .ref r1, .ref r2, .ref r3, .int (nI rn)])), (r1, .inr (0, [.ref a1, .int (nI L.length)])), (a1, .inl (cA, (100, .inl f))), (o, .inl (cL, (1, .inr (.inl fo))))] sz) := by
  refine g_ofH (cc := cL_letter) (maxL := 5) (ret := (some .int)) (by decide) rfl (Nat.le_of_ble_eq_true rfl) (fun p e s m below meth c ls hx hb hr hml hts hown hlocks htab hP hKl hl A hA hD hS hZ => ?_)
  have hK : va_K (dC, dI) vwCl [(cA, .int)] s := hKl.sub [0] rfl
  have hl : lv_has ls 5 [(0, .ref x0), (1, .int (nI 1)), (2, .int (nI k)), (3, .ref o)] := hl
  refine lv_aload_n hx hb dL_letter_0 rfl (lv_at hl 3 rfl) ?_
  refine lv_iconst (v := 0) hx hb dL_letter_1 (by decide) ?_
  refine lv_aload_n hx hb dL_letter_2 rfl (lv_at hl 0 rfl) ?_
  refine lv_iload_n hx hb dL_letter_3 rfl (lv_at hl 1 rfl) ?_
  refine lv_iload_n hx hb dL_letter_4 rfl (lv_at hl 2 rfl) ?_
  refine g_RVi (As := [.int (nI 1), .int (nI k)]) (rest := [.int 0, .ref o]) ⟨hx, hb, hml, hown, hts⟩ (mt_X1_letter1 l dC dI cA s.heap.size x0 r0 r1 r2 r3 rn a1 L f k hR hk) (cwV 2 hts gL_letter_X1_letter rfl rfl rfl hdX1_letter ⟨Nat.le_of_ble_eq_true rfl, Nat.le_of_ble_eq_true rfl⟩) hP hK hD [0, 1, 2] (by decide) rfl (va_recv hK hP (ci := 1) (q0 := 0) rfl rfl) rfl hl.1 rfl (Nat.le_of_ble_eq_true rfl) dL_letter_5 (Nat.zero_le _) (Nat.zero_le _) ?_
  refine lv_i2l (v := (atL L k).toInt64) hx hb dL_letter_8 rfl ?_
  refine va_last hx hb hKl hP hD hS 3 1 rfl rfl (vp_in_nI (n := 0) (by omega) (by decide)) dL_letter_9 (fun H locs hP hD hS => ?_)
  rw [show (0 : Int32).toNatClampNeg = 0 from by decide] at hP hD
  have hP : va_P (dC, dI) vwCl [(x0, .inr (1, [.ref r0, .ref r1, .ref r2, .ref r3, .int (nI rn)])), (r1, .inr (0, [.ref a1, .int (nI L.length)])), (a1, .inl (cA, (100, .inl f))), (o, .inl (cL, (1, .inr (.inl (vp_updL fo 0 ((atL L k).toInt64))))))] H := hP
  have hD : va_D A [(x0, .inr (1, [.ref r0, .ref r1, .ref r2, .ref r3, .int (nI rn)])), (r1, .inr (0, [.ref a1, .int (nI L.length)])), (a1, .inl (cA, (100, .inl f))), (o, .inl (cL, (1, .inr (.inl (vp_updL fo 0 ((atL L k).toInt64))))))] := hD
  refine lv_goto (tgt := 17) hx hb dL_letter_10 (by decide) ?_
  refine lv_iconst (v := 0) hx hb dL_letter_17 (by decide) ?_
  exact g_endMi hx hb hr hlocks hP hS dL_letter_18 () rfl rfl trivial

abbrev mt_L_letter_1_rm : Room := { frames := 8, cells := 1, slots := 6, locals := 133 }
set_option maxHeartbeats 4000000 in
set_option maxRecDepth 100000 in
theorem mt_L_letter_1 (l : Launch) (htr : l.stackTraces = false) (dC : Nat → ClassId) (dI : Nat → Nat → Nat) (cA cL : ClassId) (sz : Nat) (x0 : Nat) (wd : Int32) (x : Int32) (r0 : Nat) (r1 : Nat) (r2 : Nat) (r3 : Nat) (R9 : Int32) (o : Nat) (fo : Nat → Int64) (hbad : wd < 0 ∨ 1 < wd) : Met l yL_letter wsL_letter mt_L_letter_1_rm (va_Pc [.ref x0, .int wd, .int x, .ref o] (gBT (dC, dI) [(cA, .int), (cL, .long)] [(x0, .inr (1, [.ref r0, .ref r1, .ref r2, .ref r3, .int R9])), (o, .inl (cL, (1, .inr (.inl fo))))] sz)) (gM (dC, dI) (some (.int 1)) (fun u : Unit => True) (fun u : Unit => [(x0, .inr (1, [.ref r0, .ref r1, .ref r2, .ref r3, .int R9])), (o, .inl (cL, (1, .inr (.inl fo))))]) (va_A [(x0, .inr (1, [.ref r0, .ref r1, .ref r2, .ref r3, .int R9])), (o, .inl (cL, (1, .inr (.inl fo))))] sz)) 1 6 (va_A [(x0, .inr (1, [.ref r0, .ref r1, .ref r2, .ref r3, .int R9])), (o, .inl (cL, (1, .inr (.inl fo))))] sz) := by
  refine g_ofH (cc := cL_letter) (maxL := 5) (ret := (some .int)) (by decide) rfl (Nat.le_of_ble_eq_true rfl) (fun p e s m below meth c ls hx hb hr hml hts hown hlocks htab hP hKl hl A hA hD hS hZ => ?_)
  have hK : va_K (dC, dI) vwCl [(cA, .int)] s := hKl.sub [0] rfl
  have hl : lv_has ls 5 [(0, .ref x0), (1, .int wd), (2, .int x), (3, .ref o)] := hl
  refine lv_aload_n hx hb dL_letter_0 rfl (lv_at hl 3 rfl) ?_
  refine lv_iconst (v := 0) hx hb dL_letter_1 (by decide) ?_
  refine lv_aload_n hx hb dL_letter_2 rfl (lv_at hl 0 rfl) ?_
  refine lv_iload_n hx hb dL_letter_3 rfl (lv_at hl 1 rfl) ?_
  refine lv_iload_n hx hb dL_letter_4 rfl (lv_at hl 2 rfl) ?_
  refine g_HT (As := [.int wd, .int x]) (rest := [.int 0, .ref o]) (E := gIO) ⟨hx, hb, hml, hown, hts⟩ (th_X1_letter_1 l htr dC dI cA s.heap.size x0 wd x hbad) (cwV 2 hts gL_letter_X1_letter rfl rfl rfl hdX1_letter ⟨Nat.le_of_ble_eq_true rfl, Nat.le_of_ble_eq_true rfl⟩) hP hK hD hS hA hZ [] (by decide) rfl (va_recv hK hP (ci := 1) (q0 := 0) rfl rfl) rfl hl.1 rfl (Nat.le_of_ble_eq_true rfl) dL_letter_5 (Nat.le_of_ble_eq_true rfl) (Nat.le_of_ble_eq_true rfl) (own := RL) hown [] ⟨0, 10, 13, 19⟩ [] (by rw [htab]; rfl) (fun z hz => absurd hz List.not_mem_nil) (by decide) (by decide) (hts (.classLink RL 19 "java/lang/IndexOutOfBoundsException") (List.mem_of_getElem? (i := 1) rfl)) (List.mem_of_getElem? (i := 1) rfl) (fun q9 H locs hP hS => ?_)
  refine lv_astore (lv' := [(4, .ref q9), (0, .ref x0), (1, .int wd), (2, .int x), (3, .ref o)]) hx hb dL_letter_13 hl (by decide) rfl (fun ls hl => ?_)
  refine lv_iconst (v := 1) hx hb dL_letter_15 (by decide) ?_
  exact g_endMi hx hb hr hlocks hP hS dL_letter_16 () rfl rfl trivial

abbrev mt_L_letter_1b_0_rm : Room := { frames := 8, cells := 1, slots := 6, locals := 134 }
set_option maxHeartbeats 4000000 in
set_option maxRecDepth 100000 in
theorem mt_L_letter_1b_0 (l : Launch) (htr : l.stackTraces = false) (dC : Nat → ClassId) (dI : Nat → Nat → Nat) (cA cL : ClassId) (sz : Nat) (x0 : Nat) (r0 : Nat) (r1 : Nat) (r2 : Nat) (r3 : Nat) (rn : Nat) (a0 : Nat) (L : List Int32) (f : Nat → Int32) (x : Int32) (o : Nat) (fo : Nat → Int64) (hR : RI L f) (hbad : x < 0 ∨ nI L.length ≤ x) : Met l yL_letter wsL_letter mt_L_letter_1b_0_rm (va_Pc [.ref x0, .int (nI 0), .int x, .ref o] (gBT (dC, dI) [(cA, .int), (cL, .long)] [(x0, .inr (1, [.ref r0, .ref r1, .ref r2, .ref r3, .int (nI rn)])), (r0, .inr (0, [.ref a0, .int (nI L.length)])), (a0, .inl (cA, (100, .inl f))), (o, .inl (cL, (1, .inr (.inl fo))))] sz)) (gM (dC, dI) (some (.int 1)) (fun u : Unit => True) (fun u : Unit => [(x0, .inr (1, [.ref r0, .ref r1, .ref r2, .ref r3, .int (nI rn)])), (r0, .inr (0, [.ref a0, .int (nI L.length)])), (a0, .inl (cA, (100, .inl f))), (o, .inl (cL, (1, .inr (.inl fo))))]) (va_A [(x0, .inr (1, [.ref r0, .ref r1, .ref r2, .ref r3, .int (nI rn)])), (r0, .inr (0, [.ref a0, .int (nI L.length)])), (a0, .inl (cA, (100, .inl f))), (o, .inl (cL, (1, .inr (.inl fo))))] sz)) 1 6 (va_A [(x0, .inr (1, [.ref r0, .ref r1, .ref r2, .ref r3, .int (nI rn)])), (r0, .inr (0, [.ref a0, .int (nI L.length)])), (a0, .inl (cA, (100, .inl f))), (o, .inl (cL, (1, .inr (.inl fo))))] sz) := by
  refine g_ofH (cc := cL_letter) (maxL := 5) (ret := (some .int)) (by decide) rfl (Nat.le_of_ble_eq_true rfl) (fun p e s m below meth c ls hx hb hr hml hts hown hlocks htab hP hKl hl A hA hD hS hZ => ?_)
  have hK : va_K (dC, dI) vwCl [(cA, .int)] s := hKl.sub [0] rfl
  have hl : lv_has ls 5 [(0, .ref x0), (1, .int (nI 0)), (2, .int x), (3, .ref o)] := hl
  refine lv_aload_n hx hb dL_letter_0 rfl (lv_at hl 3 rfl) ?_
  refine lv_iconst (v := 0) hx hb dL_letter_1 (by decide) ?_
  refine lv_aload_n hx hb dL_letter_2 rfl (lv_at hl 0 rfl) ?_
  refine lv_iload_n hx hb dL_letter_3 rfl (lv_at hl 1 rfl) ?_
  refine lv_iload_n hx hb dL_letter_4 rfl (lv_at hl 2 rfl) ?_
  refine g_HT (As := [.int (nI 0), .int x]) (rest := [.int 0, .ref o]) (E := gIO) ⟨hx, hb, hml, hown, hts⟩ (th_X1_letter_1b_0 l htr dC dI cA s.heap.size x0 r0 r1 r2 r3 rn a0 L f x hR hbad) (cwV 2 hts gL_letter_X1_letter rfl rfl rfl hdX1_letter ⟨Nat.le_of_ble_eq_true rfl, Nat.le_of_ble_eq_true rfl⟩) hP hK hD hS hA hZ [0, 1, 2] (by decide) rfl (va_recv hK hP (ci := 1) (q0 := 0) rfl rfl) rfl hl.1 rfl (Nat.le_of_ble_eq_true rfl) dL_letter_5 (Nat.le_of_ble_eq_true rfl) (Nat.le_of_ble_eq_true rfl) (own := RL) hown [] ⟨0, 10, 13, 19⟩ [] (by rw [htab]; rfl) (fun z hz => absurd hz List.not_mem_nil) (by decide) (by decide) (hts (.classLink RL 19 "java/lang/IndexOutOfBoundsException") (List.mem_of_getElem? (i := 1) rfl)) (List.mem_of_getElem? (i := 1) rfl) (fun q9 H locs hP hS => ?_)
  refine lv_astore (lv' := [(4, .ref q9), (0, .ref x0), (1, .int (nI 0)), (2, .int x), (3, .ref o)]) hx hb dL_letter_13 hl (by decide) rfl (fun ls hl => ?_)
  refine lv_iconst (v := 1) hx hb dL_letter_15 (by decide) ?_
  exact g_endMi hx hb hr hlocks hP hS dL_letter_16 () rfl rfl trivial

abbrev mt_L_letter_1b_1_rm : Room := { frames := 8, cells := 1, slots := 6, locals := 134 }
set_option maxHeartbeats 4000000 in
set_option maxRecDepth 100000 in
theorem mt_L_letter_1b_1 (l : Launch) (htr : l.stackTraces = false) (dC : Nat → ClassId) (dI : Nat → Nat → Nat) (cA cL : ClassId) (sz : Nat) (x0 : Nat) (r0 : Nat) (r1 : Nat) (r2 : Nat) (r3 : Nat) (rn : Nat) (a1 : Nat) (L : List Int32) (f : Nat → Int32) (x : Int32) (o : Nat) (fo : Nat → Int64) (hR : RI L f) (hbad : x < 0 ∨ nI L.length ≤ x) : Met l yL_letter wsL_letter mt_L_letter_1b_1_rm (va_Pc [.ref x0, .int (nI 1), .int x, .ref o] (gBT (dC, dI) [(cA, .int), (cL, .long)] [(x0, .inr (1, [.ref r0, .ref r1, .ref r2, .ref r3, .int (nI rn)])), (r1, .inr (0, [.ref a1, .int (nI L.length)])), (a1, .inl (cA, (100, .inl f))), (o, .inl (cL, (1, .inr (.inl fo))))] sz)) (gM (dC, dI) (some (.int 1)) (fun u : Unit => True) (fun u : Unit => [(x0, .inr (1, [.ref r0, .ref r1, .ref r2, .ref r3, .int (nI rn)])), (r1, .inr (0, [.ref a1, .int (nI L.length)])), (a1, .inl (cA, (100, .inl f))), (o, .inl (cL, (1, .inr (.inl fo))))]) (va_A [(x0, .inr (1, [.ref r0, .ref r1, .ref r2, .ref r3, .int (nI rn)])), (r1, .inr (0, [.ref a1, .int (nI L.length)])), (a1, .inl (cA, (100, .inl f))), (o, .inl (cL, (1, .inr (.inl fo))))] sz)) 1 6 (va_A [(x0, .inr (1, [.ref r0, .ref r1, .ref r2, .ref r3, .int (nI rn)])), (r1, .inr (0, [.ref a1, .int (nI L.length)])), (a1, .inl (cA, (100, .inl f))), (o, .inl (cL, (1, .inr (.inl fo))))] sz) := by
  refine g_ofH (cc := cL_letter) (maxL := 5) (ret := (some .int)) (by decide) rfl (Nat.le_of_ble_eq_true rfl) (fun p e s m below meth c ls hx hb hr hml hts hown hlocks htab hP hKl hl A hA hD hS hZ => ?_)
  have hK : va_K (dC, dI) vwCl [(cA, .int)] s := hKl.sub [0] rfl
  have hl : lv_has ls 5 [(0, .ref x0), (1, .int (nI 1)), (2, .int x), (3, .ref o)] := hl
  refine lv_aload_n hx hb dL_letter_0 rfl (lv_at hl 3 rfl) ?_
  refine lv_iconst (v := 0) hx hb dL_letter_1 (by decide) ?_
  refine lv_aload_n hx hb dL_letter_2 rfl (lv_at hl 0 rfl) ?_
  refine lv_iload_n hx hb dL_letter_3 rfl (lv_at hl 1 rfl) ?_
  refine lv_iload_n hx hb dL_letter_4 rfl (lv_at hl 2 rfl) ?_
  refine g_HT (As := [.int (nI 1), .int x]) (rest := [.int 0, .ref o]) (E := gIO) ⟨hx, hb, hml, hown, hts⟩ (th_X1_letter_1b_1 l htr dC dI cA s.heap.size x0 r0 r1 r2 r3 rn a1 L f x hR hbad) (cwV 2 hts gL_letter_X1_letter rfl rfl rfl hdX1_letter ⟨Nat.le_of_ble_eq_true rfl, Nat.le_of_ble_eq_true rfl⟩) hP hK hD hS hA hZ [0, 1, 2] (by decide) rfl (va_recv hK hP (ci := 1) (q0 := 0) rfl rfl) rfl hl.1 rfl (Nat.le_of_ble_eq_true rfl) dL_letter_5 (Nat.le_of_ble_eq_true rfl) (Nat.le_of_ble_eq_true rfl) (own := RL) hown [] ⟨0, 10, 13, 19⟩ [] (by rw [htab]; rfl) (fun z hz => absurd hz List.not_mem_nil) (by decide) (by decide) (hts (.classLink RL 19 "java/lang/IndexOutOfBoundsException") (List.mem_of_getElem? (i := 1) rfl)) (List.mem_of_getElem? (i := 1) rfl) (fun q9 H locs hP hS => ?_)
  refine lv_astore (lv' := [(4, .ref q9), (0, .ref x0), (1, .int (nI 1)), (2, .int x), (3, .ref o)]) hx hb dL_letter_13 hl (by decide) rfl (fun ls hl => ?_)
  refine lv_iconst (v := 1) hx hb dL_letter_15 (by decide) ?_
  exact g_endMi hx hb hr hlocks hP hS dL_letter_16 () rfl rfl trivial

abbrev mt_L_count_rm : Room := { frames := 4, cells := 0, slots := 0, locals := 85 }
set_option maxHeartbeats 4000000 in
set_option maxRecDepth 100000 in
theorem mt_L_count (l : Launch) (htr : l.stackTraces = false) (dC : Nat → ClassId) (dI : Nat → Nat → Nat) (cA cL : ClassId) (sz : Nat) (x0 : Nat) (r0 : Nat) (r1 : Nat) (r2 : Nat) (r3 : Nat) (rn : Nat) (a0 : Nat) (a1 : Nat) (L0 : List Int32) (f0 : Nat → Int32) (L1 : List Int32) (f1 : Nat → Int32) (q : Nat) (o : Nat) (fo : Nat → Int64) (hR0 : RI L0 f0) (hR1 : RI L1 f1) (hq : q < 5) : Met l yL_count wsL_count mt_L_count_rm (va_Pc [.ref x0, .int (nI q), .ref o] (gBT (dC, dI) [(cA, .int), (cL, .long)] [(x0, .inr (1, [.ref r0, .ref r1, .ref r2, .ref r3, .int (nI rn)])), (r0, .inr (0, [.ref a0, .int (nI L0.length)])), (a0, .inl (cA, (100, .inl f0))), (r1, .inr (0, [.ref a1, .int (nI L1.length)])), (a1, .inl (cA, (100, .inl f1))), (o, .inl (cL, (1, .inr (.inl fo))))] sz)) (gM (dC, dI) (some (.int 0)) (fun u : Unit => True) (fun u : Unit => [(x0, .inr (1, [.ref r0, .ref r1, .ref r2, .ref r3, .int (nI rn)])), (r0, .inr (0, [.ref a0, .int (nI L0.length)])), (a0, .inl (cA, (100, .inl f0))), (r1, .inr (0, [.ref a1, .int (nI L1.length)])), (a1, .inl (cA, (100, .inl f1))), (o, .inl (cL, (1, .inr (.inl (vp_updL fo 0 (coI rn L0 L1 q).toInt64)))))]) (va_A [(x0, .inr (1, [.ref r0, .ref r1, .ref r2, .ref r3, .int (nI rn)])), (r0, .inr (0, [.ref a0, .int (nI L0.length)])), (a0, .inl (cA, (100, .inl f0))), (r1, .inr (0, [.ref a1, .int (nI L1.length)])), (a1, .inl (cA, (100, .inl f1))), (o, .inl (cL, (1, .inr (.inl fo))))] sz)) 0 0 (va_A [(x0, .inr (1, [.ref r0, .ref r1, .ref r2, .ref r3, .int (nI rn)])), (r0, .inr (0, [.ref a0, .int (nI L0.length)])), (a0, .inl (cA, (100, .inl f0))), (r1, .inr (0, [.ref a1, .int (nI L1.length)])), (a1, .inl (cA, (100, .inl f1))), (o, .inl (cL, (1, .inr (.inl fo))))] sz) := by
  refine g_ofH (cc := cL_count) (maxL := 4) (ret := (some .int)) (by decide) rfl (Nat.le_of_ble_eq_true rfl) (fun p e s m below meth c ls hx hb hr hml hts hown hlocks htab hP hKl hl A hA hD hS hZ => ?_)
  have hK : va_K (dC, dI) vwCl [(cA, .int)] s := hKl.sub [0] rfl
  have hl : lv_has ls 4 [(0, .ref x0), (1, .int (nI q)), (2, .ref o)] := hl
  refine lv_aload_n hx hb dL_count_0 rfl (lv_at hl 2 rfl) ?_
  refine lv_iconst (v := 0) hx hb dL_count_1 (by decide) ?_
  refine lv_aload_n hx hb dL_count_2 rfl (lv_at hl 0 rfl) ?_
  refine lv_iload_n hx hb dL_count_3 rfl (lv_at hl 1 rfl) ?_
  refine g_RVi (As := [.int (nI q)]) (rest := [.int 0, .ref o]) ⟨hx, hb, hml, hown, hts⟩ (mt_X1_count l dC dI cA s.heap.size x0 r0 r1 r2 r3 rn a0 a1 L0 f0 L1 f1 q hR0 hR1 hq) (cwV 1 hts gL_count_X1_count rfl rfl rfl hdX1_count ⟨Nat.le_of_ble_eq_true rfl, Nat.le_of_ble_eq_true rfl⟩) hP hK hD [0, 1, 2, 3, 4] (by decide) rfl (va_recv hK hP (ci := 1) (q0 := 0) rfl rfl) rfl hl.1 rfl (Nat.le_of_ble_eq_true rfl) dL_count_4 (Nat.zero_le _) (Nat.zero_le _) ?_
  refine lv_i2l (v := (coI rn L0 L1 q).toInt64) hx hb dL_count_7 rfl ?_
  refine va_last hx hb hKl hP hD hS 5 1 rfl rfl (vp_in_nI (n := 0) (by omega) (by decide)) dL_count_8 (fun H locs hP hD hS => ?_)
  rw [show (0 : Int32).toNatClampNeg = 0 from by decide] at hP hD
  have hP : va_P (dC, dI) vwCl [(x0, .inr (1, [.ref r0, .ref r1, .ref r2, .ref r3, .int (nI rn)])), (r0, .inr (0, [.ref a0, .int (nI L0.length)])), (a0, .inl (cA, (100, .inl f0))), (r1, .inr (0, [.ref a1, .int (nI L1.length)])), (a1, .inl (cA, (100, .inl f1))), (o, .inl (cL, (1, .inr (.inl (vp_updL fo 0 ((coI rn L0 L1 q).toInt64))))))] H := hP
  have hD : va_D A [(x0, .inr (1, [.ref r0, .ref r1, .ref r2, .ref r3, .int (nI rn)])), (r0, .inr (0, [.ref a0, .int (nI L0.length)])), (a0, .inl (cA, (100, .inl f0))), (r1, .inr (0, [.ref a1, .int (nI L1.length)])), (a1, .inl (cA, (100, .inl f1))), (o, .inl (cL, (1, .inr (.inl (vp_updL fo 0 ((coI rn L0 L1 q).toInt64))))))] := hD
  refine lv_goto (tgt := 15) hx hb dL_count_9 (by decide) ?_
  refine lv_iconst (v := 0) hx hb dL_count_15 (by decide) ?_
  exact g_endMi hx hb hr hlocks hP hS dL_count_16 () rfl rfl trivial

abbrev mt_L_count_1_rm : Room := { frames := 8, cells := 1, slots := 6, locals := 132 }
set_option maxHeartbeats 4000000 in
set_option maxRecDepth 100000 in
theorem mt_L_count_1 (l : Launch) (htr : l.stackTraces = false) (dC : Nat → ClassId) (dI : Nat → Nat → Nat) (cA cL : ClassId) (sz : Nat) (x0 : Nat) (x : Int32) (r0 : Nat) (r1 : Nat) (r2 : Nat) (r3 : Nat) (R9 : Int32) (o : Nat) (fo : Nat → Int64) (hbad : x < 0 ∨ 5 ≤ x) : Met l yL_count wsL_count mt_L_count_1_rm (va_Pc [.ref x0, .int x, .ref o] (gBT (dC, dI) [(cA, .int), (cL, .long)] [(x0, .inr (1, [.ref r0, .ref r1, .ref r2, .ref r3, .int R9])), (o, .inl (cL, (1, .inr (.inl fo))))] sz)) (gM (dC, dI) (some (.int 1)) (fun u : Unit => True) (fun u : Unit => [(x0, .inr (1, [.ref r0, .ref r1, .ref r2, .ref r3, .int R9])), (o, .inl (cL, (1, .inr (.inl fo))))]) (va_A [(x0, .inr (1, [.ref r0, .ref r1, .ref r2, .ref r3, .int R9])), (o, .inl (cL, (1, .inr (.inl fo))))] sz)) 1 6 (va_A [(x0, .inr (1, [.ref r0, .ref r1, .ref r2, .ref r3, .int R9])), (o, .inl (cL, (1, .inr (.inl fo))))] sz) := by
  refine g_ofH (cc := cL_count) (maxL := 4) (ret := (some .int)) (by decide) rfl (Nat.le_of_ble_eq_true rfl) (fun p e s m below meth c ls hx hb hr hml hts hown hlocks htab hP hKl hl A hA hD hS hZ => ?_)
  have hK : va_K (dC, dI) vwCl [(cA, .int)] s := hKl.sub [0] rfl
  have hl : lv_has ls 4 [(0, .ref x0), (1, .int x), (2, .ref o)] := hl
  refine lv_aload_n hx hb dL_count_0 rfl (lv_at hl 2 rfl) ?_
  refine lv_iconst (v := 0) hx hb dL_count_1 (by decide) ?_
  refine lv_aload_n hx hb dL_count_2 rfl (lv_at hl 0 rfl) ?_
  refine lv_iload_n hx hb dL_count_3 rfl (lv_at hl 1 rfl) ?_
  refine g_HT (As := [.int x]) (rest := [.int 0, .ref o]) (E := gIO) ⟨hx, hb, hml, hown, hts⟩ (th_X1_count_1 l htr dC dI cA s.heap.size x0 x hbad) (cwV 1 hts gL_count_X1_count rfl rfl rfl hdX1_count ⟨Nat.le_of_ble_eq_true rfl, Nat.le_of_ble_eq_true rfl⟩) hP hK hD hS hA hZ [] (by decide) rfl (va_recv hK hP (ci := 1) (q0 := 0) rfl rfl) rfl hl.1 rfl (Nat.le_of_ble_eq_true rfl) dL_count_4 (Nat.le_of_ble_eq_true rfl) (Nat.le_of_ble_eq_true rfl) (own := RL) hown [] ⟨0, 9, 12, 19⟩ [] (by rw [htab]; rfl) (fun z hz => absurd hz List.not_mem_nil) (by decide) (by decide) (hts (.classLink RL 19 "java/lang/IndexOutOfBoundsException") (List.mem_of_getElem? (i := 1) rfl)) (List.mem_of_getElem? (i := 1) rfl) (fun q9 H locs hP hS => ?_)
  refine lv_astore_n (lv' := [(3, .ref q9), (0, .ref x0), (1, .int x), (2, .ref o)]) hx hb dL_count_12 rfl hl (by decide) rfl (fun ls hl => ?_)
  refine lv_iconst (v := 1) hx hb dL_count_13 (by decide) ?_
  exact g_endMi hx hb hr hlocks hP hS dL_count_14 () rfl rfl trivial

abbrev mt_L_end0_rm : Room := { frames := 4, cells := 0, slots := 0, locals := 87 }
set_option maxHeartbeats 4000000 in
set_option maxRecDepth 100000 in
theorem mt_L_end0 (l : Launch) (htr : l.stackTraces = false) (dC : Nat → ClassId) (dI : Nat → Nat → Nat) (cA cL : ClassId) (sz : Nat) (x0 : Nat) (r0 : Nat) (r1 : Nat) (r2 : Nat) (r3 : Nat) (rn : Nat) (a0 : Nat) (L : List Int32) (f : Nat → Int32) (x : Int32) (o : Nat) (fo : Nat → Int64) (hR : RI L f) (h0 : ¬ x < 0) (h1 : x < nI rn) : Met l yL_end wsL_end mt_L_end0_rm (va_Pc [.ref x0, .int (nI 0), .int x, .ref o] (gBT (dC, dI) [(cA, .int), (cL, .long)] [(x0, .inr (1, [.ref r0, .ref r1, .ref r2, .ref r3, .int (nI rn)])), (r0, .inr (0, [.ref a0, .int (nI L.length)])), (a0, .inl (cA, (100, .inl f))), (o, .inl (cL, (1, .inr (.inl fo))))] sz)) (gM (dC, dI) (some (.int 0)) (fun u : Unit => True) (fun u : Unit => [(x0, .inr (1, [.ref r0, .ref r1, .ref r2, .ref r3, .int (nI rn)])), (r0, .inr (0, [.ref a0, .int (nI L.length)])), (a0, .inl (cA, (100, .inl f))), (o, .inl (cL, (1, .inr (.inl (vp_updL fo 0 (plE L x L.length).toInt64)))))]) (va_A [(x0, .inr (1, [.ref r0, .ref r1, .ref r2, .ref r3, .int (nI rn)])), (r0, .inr (0, [.ref a0, .int (nI L.length)])), (a0, .inl (cA, (100, .inl f))), (o, .inl (cL, (1, .inr (.inl fo))))] sz)) 0 0 (va_A [(x0, .inr (1, [.ref r0, .ref r1, .ref r2, .ref r3, .int (nI rn)])), (r0, .inr (0, [.ref a0, .int (nI L.length)])), (a0, .inl (cA, (100, .inl f))), (o, .inl (cL, (1, .inr (.inl fo))))] sz) := by
  refine g_ofH (cc := cL_end) (maxL := 5) (ret := (some .int)) (by decide) rfl (Nat.le_of_ble_eq_true rfl) (fun p e s m below meth c ls hx hb hr hml hts hown hlocks htab hP hKl hl A hA hD hS hZ => ?_)
  have hK : va_K (dC, dI) vwCl [(cA, .int)] s := hKl.sub [0] rfl
  have hl : lv_has ls 5 [(0, .ref x0), (1, .int (nI 0)), (2, .int x), (3, .ref o)] := hl
  refine lv_aload_n hx hb dL_end_0 rfl (lv_at hl 3 rfl) ?_
  refine lv_iconst (v := 0) hx hb dL_end_1 (by decide) ?_
  refine lv_aload_n hx hb dL_end_2 rfl (lv_at hl 0 rfl) ?_
  refine lv_iload_n hx hb dL_end_3 rfl (lv_at hl 1 rfl) ?_
  refine lv_iload_n hx hb dL_end_4 rfl (lv_at hl 2 rfl) ?_
  refine g_RVi (As := [.int (nI 0), .int x]) (rest := [.int 0, .ref o]) ⟨hx, hb, hml, hown, hts⟩ (mt_X1_end0 l dC dI cA s.heap.size x0 r0 r1 r2 r3 rn a0 L f x hR h0 h1) (cwV 2 hts gL_end_X1_end rfl rfl rfl hdX1_end ⟨Nat.le_of_ble_eq_true rfl, Nat.le_of_ble_eq_true rfl⟩) hP hK hD [0, 1, 2] (by decide) rfl (va_recv hK hP (ci := 1) (q0 := 0) rfl rfl) rfl hl.1 rfl (Nat.le_of_ble_eq_true rfl) dL_end_5 (Nat.zero_le _) (Nat.zero_le _) ?_
  refine lv_i2l (v := (plE L x L.length).toInt64) hx hb dL_end_8 rfl ?_
  refine va_last hx hb hKl hP hD hS 3 1 rfl rfl (vp_in_nI (n := 0) (by omega) (by decide)) dL_end_9 (fun H locs hP hD hS => ?_)
  rw [show (0 : Int32).toNatClampNeg = 0 from by decide] at hP hD
  have hP : va_P (dC, dI) vwCl [(x0, .inr (1, [.ref r0, .ref r1, .ref r2, .ref r3, .int (nI rn)])), (r0, .inr (0, [.ref a0, .int (nI L.length)])), (a0, .inl (cA, (100, .inl f))), (o, .inl (cL, (1, .inr (.inl (vp_updL fo 0 ((plE L x L.length).toInt64))))))] H := hP
  have hD : va_D A [(x0, .inr (1, [.ref r0, .ref r1, .ref r2, .ref r3, .int (nI rn)])), (r0, .inr (0, [.ref a0, .int (nI L.length)])), (a0, .inl (cA, (100, .inl f))), (o, .inl (cL, (1, .inr (.inl (vp_updL fo 0 ((plE L x L.length).toInt64))))))] := hD
  refine lv_goto (tgt := 17) hx hb dL_end_10 (by decide) ?_
  refine lv_iconst (v := 0) hx hb dL_end_17 (by decide) ?_
  exact g_endMi hx hb hr hlocks hP hS dL_end_18 () rfl rfl trivial

abbrev mt_L_end1_rm : Room := { frames := 4, cells := 0, slots := 0, locals := 87 }
set_option maxHeartbeats 4000000 in
set_option maxRecDepth 100000 in
theorem mt_L_end1 (l : Launch) (htr : l.stackTraces = false) (dC : Nat → ClassId) (dI : Nat → Nat → Nat) (cA cL : ClassId) (sz : Nat) (x0 : Nat) (r0 : Nat) (r1 : Nat) (r2 : Nat) (r3 : Nat) (rn : Nat) (a1 : Nat) (L : List Int32) (f : Nat → Int32) (x : Int32) (o : Nat) (fo : Nat → Int64) (hR : RI L f) (h0 : ¬ x < 0) (h1 : x < nI rn) : Met l yL_end wsL_end mt_L_end1_rm (va_Pc [.ref x0, .int (nI 1), .int x, .ref o] (gBT (dC, dI) [(cA, .int), (cL, .long)] [(x0, .inr (1, [.ref r0, .ref r1, .ref r2, .ref r3, .int (nI rn)])), (r1, .inr (0, [.ref a1, .int (nI L.length)])), (a1, .inl (cA, (100, .inl f))), (o, .inl (cL, (1, .inr (.inl fo))))] sz)) (gM (dC, dI) (some (.int 0)) (fun u : Unit => True) (fun u : Unit => [(x0, .inr (1, [.ref r0, .ref r1, .ref r2, .ref r3, .int (nI rn)])), (r1, .inr (0, [.ref a1, .int (nI L.length)])), (a1, .inl (cA, (100, .inl f))), (o, .inl (cL, (1, .inr (.inl (vp_updL fo 0 (plE L x L.length).toInt64)))))]) (va_A [(x0, .inr (1, [.ref r0, .ref r1, .ref r2, .ref r3, .int (nI rn)])), (r1, .inr (0, [.ref a1, .int (nI L.length)])), (a1, .inl (cA, (100, .inl f))), (o, .inl (cL, (1, .inr (.inl fo))))] sz)) 0 0 (va_A [(x0, .inr (1, [.ref r0, .ref r1, .ref r2, .ref r3, .int (nI rn)])), (r1, .inr (0, [.ref a1, .int (nI L.length)])), (a1, .inl (cA, (100, .inl f))), (o, .inl (cL, (1, .inr (.inl fo))))] sz) := by
  refine g_ofH (cc := cL_end) (maxL := 5) (ret := (some .int)) (by decide) rfl (Nat.le_of_ble_eq_true rfl) (fun p e s m below meth c ls hx hb hr hml hts hown hlocks htab hP hKl hl A hA hD hS hZ => ?_)
  have hK : va_K (dC, dI) vwCl [(cA, .int)] s := hKl.sub [0] rfl
  have hl : lv_has ls 5 [(0, .ref x0), (1, .int (nI 1)), (2, .int x), (3, .ref o)] := hl
  refine lv_aload_n hx hb dL_end_0 rfl (lv_at hl 3 rfl) ?_
  refine lv_iconst (v := 0) hx hb dL_end_1 (by decide) ?_
  refine lv_aload_n hx hb dL_end_2 rfl (lv_at hl 0 rfl) ?_
  refine lv_iload_n hx hb dL_end_3 rfl (lv_at hl 1 rfl) ?_
  refine lv_iload_n hx hb dL_end_4 rfl (lv_at hl 2 rfl) ?_
  refine g_RVi (As := [.int (nI 1), .int x]) (rest := [.int 0, .ref o]) ⟨hx, hb, hml, hown, hts⟩ (mt_X1_end1 l dC dI cA s.heap.size x0 r0 r1 r2 r3 rn a1 L f x hR h0 h1) (cwV 2 hts gL_end_X1_end rfl rfl rfl hdX1_end ⟨Nat.le_of_ble_eq_true rfl, Nat.le_of_ble_eq_true rfl⟩) hP hK hD [0, 1, 2] (by decide) rfl (va_recv hK hP (ci := 1) (q0 := 0) rfl rfl) rfl hl.1 rfl (Nat.le_of_ble_eq_true rfl) dL_end_5 (Nat.zero_le _) (Nat.zero_le _) ?_
  refine lv_i2l (v := (plE L x L.length).toInt64) hx hb dL_end_8 rfl ?_
  refine va_last hx hb hKl hP hD hS 3 1 rfl rfl (vp_in_nI (n := 0) (by omega) (by decide)) dL_end_9 (fun H locs hP hD hS => ?_)
  rw [show (0 : Int32).toNatClampNeg = 0 from by decide] at hP hD
  have hP : va_P (dC, dI) vwCl [(x0, .inr (1, [.ref r0, .ref r1, .ref r2, .ref r3, .int (nI rn)])), (r1, .inr (0, [.ref a1, .int (nI L.length)])), (a1, .inl (cA, (100, .inl f))), (o, .inl (cL, (1, .inr (.inl (vp_updL fo 0 ((plE L x L.length).toInt64))))))] H := hP
  have hD : va_D A [(x0, .inr (1, [.ref r0, .ref r1, .ref r2, .ref r3, .int (nI rn)])), (r1, .inr (0, [.ref a1, .int (nI L.length)])), (a1, .inl (cA, (100, .inl f))), (o, .inl (cL, (1, .inr (.inl (vp_updL fo 0 ((plE L x L.length).toInt64))))))] := hD
  refine lv_goto (tgt := 17) hx hb dL_end_10 (by decide) ?_
  refine lv_iconst (v := 0) hx hb dL_end_17 (by decide) ?_
  exact g_endMi hx hb hr hlocks hP hS dL_end_18 () rfl rfl trivial

abbrev mt_L_end_1_rm : Room := { frames := 8, cells := 1, slots := 6, locals := 132 }
set_option maxHeartbeats 4000000 in
set_option maxRecDepth 100000 in
theorem mt_L_end_1 (l : Launch) (htr : l.stackTraces = false) (dC : Nat → ClassId) (dI : Nat → Nat → Nat) (cA cL : ClassId) (sz : Nat) (x0 : Nat) (wd : Int32) (x : Int32) (r0 : Nat) (r1 : Nat) (r2 : Nat) (r3 : Nat) (R9 : Int32) (o : Nat) (fo : Nat → Int64) (hbad : wd < 0 ∨ 1 < wd) : Met l yL_end wsL_end mt_L_end_1_rm (va_Pc [.ref x0, .int wd, .int x, .ref o] (gBT (dC, dI) [(cA, .int), (cL, .long)] [(x0, .inr (1, [.ref r0, .ref r1, .ref r2, .ref r3, .int R9])), (o, .inl (cL, (1, .inr (.inl fo))))] sz)) (gM (dC, dI) (some (.int 1)) (fun u : Unit => True) (fun u : Unit => [(x0, .inr (1, [.ref r0, .ref r1, .ref r2, .ref r3, .int R9])), (o, .inl (cL, (1, .inr (.inl fo))))]) (va_A [(x0, .inr (1, [.ref r0, .ref r1, .ref r2, .ref r3, .int R9])), (o, .inl (cL, (1, .inr (.inl fo))))] sz)) 1 6 (va_A [(x0, .inr (1, [.ref r0, .ref r1, .ref r2, .ref r3, .int R9])), (o, .inl (cL, (1, .inr (.inl fo))))] sz) := by
  refine g_ofH (cc := cL_end) (maxL := 5) (ret := (some .int)) (by decide) rfl (Nat.le_of_ble_eq_true rfl) (fun p e s m below meth c ls hx hb hr hml hts hown hlocks htab hP hKl hl A hA hD hS hZ => ?_)
  have hK : va_K (dC, dI) vwCl [(cA, .int)] s := hKl.sub [0] rfl
  have hl : lv_has ls 5 [(0, .ref x0), (1, .int wd), (2, .int x), (3, .ref o)] := hl
  refine lv_aload_n hx hb dL_end_0 rfl (lv_at hl 3 rfl) ?_
  refine lv_iconst (v := 0) hx hb dL_end_1 (by decide) ?_
  refine lv_aload_n hx hb dL_end_2 rfl (lv_at hl 0 rfl) ?_
  refine lv_iload_n hx hb dL_end_3 rfl (lv_at hl 1 rfl) ?_
  refine lv_iload_n hx hb dL_end_4 rfl (lv_at hl 2 rfl) ?_
  refine g_HT (As := [.int wd, .int x]) (rest := [.int 0, .ref o]) (E := gIO) ⟨hx, hb, hml, hown, hts⟩ (th_X1_end_1 l htr dC dI cA s.heap.size x0 wd x hbad) (cwV 2 hts gL_end_X1_end rfl rfl rfl hdX1_end ⟨Nat.le_of_ble_eq_true rfl, Nat.le_of_ble_eq_true rfl⟩) hP hK hD hS hA hZ [] (by decide) rfl (va_recv hK hP (ci := 1) (q0 := 0) rfl rfl) rfl hl.1 rfl (Nat.le_of_ble_eq_true rfl) dL_end_5 (Nat.le_of_ble_eq_true rfl) (Nat.le_of_ble_eq_true rfl) (own := RL) hown [] ⟨0, 10, 13, 19⟩ [] (by rw [htab]; rfl) (fun z hz => absurd hz List.not_mem_nil) (by decide) (by decide) (hts (.classLink RL 19 "java/lang/IndexOutOfBoundsException") (List.mem_of_getElem? (i := 1) rfl)) (List.mem_of_getElem? (i := 1) rfl) (fun q9 H locs hP hS => ?_)
  refine lv_astore (lv' := [(4, .ref q9), (0, .ref x0), (1, .int wd), (2, .int x), (3, .ref o)]) hx hb dL_end_13 hl (by decide) rfl (fun ls hl => ?_)
  refine lv_iconst (v := 1) hx hb dL_end_15 (by decide) ?_
  exact g_endMi hx hb hr hlocks hP hS dL_end_16 () rfl rfl trivial

abbrev mt_L_end_1b_0_rm : Room := { frames := 8, cells := 1, slots := 6, locals := 133 }
set_option maxHeartbeats 4000000 in
set_option maxRecDepth 100000 in
theorem mt_L_end_1b_0 (l : Launch) (htr : l.stackTraces = false) (dC : Nat → ClassId) (dI : Nat → Nat → Nat) (cA cL : ClassId) (sz : Nat) (x0 : Nat) (r0 : Nat) (r1 : Nat) (r2 : Nat) (r3 : Nat) (rn : Nat) (x : Int32) (o : Nat) (fo : Nat → Int64) (hbad : x < 0 ∨ nI rn ≤ x) : Met l yL_end wsL_end mt_L_end_1b_0_rm (va_Pc [.ref x0, .int (nI 0), .int x, .ref o] (gBT (dC, dI) [(cA, .int), (cL, .long)] [(x0, .inr (1, [.ref r0, .ref r1, .ref r2, .ref r3, .int (nI rn)])), (o, .inl (cL, (1, .inr (.inl fo))))] sz)) (gM (dC, dI) (some (.int 1)) (fun u : Unit => True) (fun u : Unit => [(x0, .inr (1, [.ref r0, .ref r1, .ref r2, .ref r3, .int (nI rn)])), (o, .inl (cL, (1, .inr (.inl fo))))]) (va_A [(x0, .inr (1, [.ref r0, .ref r1, .ref r2, .ref r3, .int (nI rn)])), (o, .inl (cL, (1, .inr (.inl fo))))] sz)) 1 6 (va_A [(x0, .inr (1, [.ref r0, .ref r1, .ref r2, .ref r3, .int (nI rn)])), (o, .inl (cL, (1, .inr (.inl fo))))] sz) := by
  refine g_ofH (cc := cL_end) (maxL := 5) (ret := (some .int)) (by decide) rfl (Nat.le_of_ble_eq_true rfl) (fun p e s m below meth c ls hx hb hr hml hts hown hlocks htab hP hKl hl A hA hD hS hZ => ?_)
  have hK : va_K (dC, dI) vwCl [(cA, .int)] s := hKl.sub [0] rfl
  have hl : lv_has ls 5 [(0, .ref x0), (1, .int (nI 0)), (2, .int x), (3, .ref o)] := hl
  refine lv_aload_n hx hb dL_end_0 rfl (lv_at hl 3 rfl) ?_
  refine lv_iconst (v := 0) hx hb dL_end_1 (by decide) ?_
  refine lv_aload_n hx hb dL_end_2 rfl (lv_at hl 0 rfl) ?_
  refine lv_iload_n hx hb dL_end_3 rfl (lv_at hl 1 rfl) ?_
  refine lv_iload_n hx hb dL_end_4 rfl (lv_at hl 2 rfl) ?_
  refine g_HT (As := [.int (nI 0), .int x]) (rest := [.int 0, .ref o]) (E := gIO) ⟨hx, hb, hml, hown, hts⟩ (th_X1_end_1b_0 l htr dC dI cA s.heap.size x0 r0 r1 r2 r3 rn x hbad) (cwV 2 hts gL_end_X1_end rfl rfl rfl hdX1_end ⟨Nat.le_of_ble_eq_true rfl, Nat.le_of_ble_eq_true rfl⟩) hP hK hD hS hA hZ [0] (by decide) rfl (va_recv hK hP (ci := 1) (q0 := 0) rfl rfl) rfl hl.1 rfl (Nat.le_of_ble_eq_true rfl) dL_end_5 (Nat.le_of_ble_eq_true rfl) (Nat.le_of_ble_eq_true rfl) (own := RL) hown [] ⟨0, 10, 13, 19⟩ [] (by rw [htab]; rfl) (fun z hz => absurd hz List.not_mem_nil) (by decide) (by decide) (hts (.classLink RL 19 "java/lang/IndexOutOfBoundsException") (List.mem_of_getElem? (i := 1) rfl)) (List.mem_of_getElem? (i := 1) rfl) (fun q9 H locs hP hS => ?_)
  refine lv_astore (lv' := [(4, .ref q9), (0, .ref x0), (1, .int (nI 0)), (2, .int x), (3, .ref o)]) hx hb dL_end_13 hl (by decide) rfl (fun ls hl => ?_)
  refine lv_iconst (v := 1) hx hb dL_end_15 (by decide) ?_
  exact g_endMi hx hb hr hlocks hP hS dL_end_16 () rfl rfl trivial

abbrev mt_L_end_1b_1_rm : Room := { frames := 8, cells := 1, slots := 6, locals := 133 }
set_option maxHeartbeats 4000000 in
set_option maxRecDepth 100000 in
theorem mt_L_end_1b_1 (l : Launch) (htr : l.stackTraces = false) (dC : Nat → ClassId) (dI : Nat → Nat → Nat) (cA cL : ClassId) (sz : Nat) (x0 : Nat) (r0 : Nat) (r1 : Nat) (r2 : Nat) (r3 : Nat) (rn : Nat) (x : Int32) (o : Nat) (fo : Nat → Int64) (hbad : x < 0 ∨ nI rn ≤ x) : Met l yL_end wsL_end mt_L_end_1b_1_rm (va_Pc [.ref x0, .int (nI 1), .int x, .ref o] (gBT (dC, dI) [(cA, .int), (cL, .long)] [(x0, .inr (1, [.ref r0, .ref r1, .ref r2, .ref r3, .int (nI rn)])), (o, .inl (cL, (1, .inr (.inl fo))))] sz)) (gM (dC, dI) (some (.int 1)) (fun u : Unit => True) (fun u : Unit => [(x0, .inr (1, [.ref r0, .ref r1, .ref r2, .ref r3, .int (nI rn)])), (o, .inl (cL, (1, .inr (.inl fo))))]) (va_A [(x0, .inr (1, [.ref r0, .ref r1, .ref r2, .ref r3, .int (nI rn)])), (o, .inl (cL, (1, .inr (.inl fo))))] sz)) 1 6 (va_A [(x0, .inr (1, [.ref r0, .ref r1, .ref r2, .ref r3, .int (nI rn)])), (o, .inl (cL, (1, .inr (.inl fo))))] sz) := by
  refine g_ofH (cc := cL_end) (maxL := 5) (ret := (some .int)) (by decide) rfl (Nat.le_of_ble_eq_true rfl) (fun p e s m below meth c ls hx hb hr hml hts hown hlocks htab hP hKl hl A hA hD hS hZ => ?_)
  have hK : va_K (dC, dI) vwCl [(cA, .int)] s := hKl.sub [0] rfl
  have hl : lv_has ls 5 [(0, .ref x0), (1, .int (nI 1)), (2, .int x), (3, .ref o)] := hl
  refine lv_aload_n hx hb dL_end_0 rfl (lv_at hl 3 rfl) ?_
  refine lv_iconst (v := 0) hx hb dL_end_1 (by decide) ?_
  refine lv_aload_n hx hb dL_end_2 rfl (lv_at hl 0 rfl) ?_
  refine lv_iload_n hx hb dL_end_3 rfl (lv_at hl 1 rfl) ?_
  refine lv_iload_n hx hb dL_end_4 rfl (lv_at hl 2 rfl) ?_
  refine g_HT (As := [.int (nI 1), .int x]) (rest := [.int 0, .ref o]) (E := gIO) ⟨hx, hb, hml, hown, hts⟩ (th_X1_end_1b_1 l htr dC dI cA s.heap.size x0 r0 r1 r2 r3 rn x hbad) (cwV 2 hts gL_end_X1_end rfl rfl rfl hdX1_end ⟨Nat.le_of_ble_eq_true rfl, Nat.le_of_ble_eq_true rfl⟩) hP hK hD hS hA hZ [0] (by decide) rfl (va_recv hK hP (ci := 1) (q0 := 0) rfl rfl) rfl hl.1 rfl (Nat.le_of_ble_eq_true rfl) dL_end_5 (Nat.le_of_ble_eq_true rfl) (Nat.le_of_ble_eq_true rfl) (own := RL) hown [] ⟨0, 10, 13, 19⟩ [] (by rw [htab]; rfl) (fun z hz => absurd hz List.not_mem_nil) (by decide) (by decide) (hts (.classLink RL 19 "java/lang/IndexOutOfBoundsException") (List.mem_of_getElem? (i := 1) rfl)) (List.mem_of_getElem? (i := 1) rfl) (fun q9 H locs hP hS => ?_)
  refine lv_astore (lv' := [(4, .ref q9), (0, .ref x0), (1, .int (nI 1)), (2, .int x), (3, .ref o)]) hx hb dL_end_13 hl (by decide) rfl (fun ls hl => ?_)
  refine lv_iconst (v := 1) hx hb dL_end_15 (by decide) ?_
  exact g_endMi hx hb hr hlocks hP hS dL_end_16 () rfl rfl trivial

abbrev mt_L_crosses0_rm : Room := { frames := 4, cells := 0, slots := 0, locals := 94 }
set_option maxHeartbeats 4000000 in
set_option maxRecDepth 100000 in
theorem mt_L_crosses0 (l : Launch) (htr : l.stackTraces = false) (dC : Nat → ClassId) (dI : Nat → Nat → Nat) (cA cL : ClassId) (sz : Nat) (x0 : Nat) (r0 : Nat) (r1 : Nat) (r2 : Nat) (r3 : Nat) (rn : Nat) (a0 : Nat) (L : List Int32) (f : Nat → Int32) (x : Int32) (y : Int32) (o : Nat) (fo : Nat → Int64) (hR : RI L f) (h0 : ¬ x < 0) (h1 : x < nI rn) (h2 : ¬ y < 0) (h3 : y < nI rn) (h4 : ¬ x = y) : Met l yL_crosses wsL_crosses mt_L_crosses0_rm (va_Pc [.ref x0, .int (nI 0), .int x, .int y, .ref o] (gBT (dC, dI) [(cA, .int), (cL, .long)] [(x0, .inr (1, [.ref r0, .ref r1, .ref r2, .ref r3, .int (nI rn)])), (r0, .inr (0, [.ref a0, .int (nI L.length)])), (a0, .inl (cA, (100, .inl f))), (o, .inl (cL, (1, .inr (.inl fo))))] sz)) (gM (dC, dI) (some (.int 0)) (fun u : Unit => True) (fun u : Unit => [(x0, .inr (1, [.ref r0, .ref r1, .ref r2, .ref r3, .int (nI rn)])), (r0, .inr (0, [.ref a0, .int (nI L.length)])), (a0, .inl (cA, (100, .inl f))), (o, .inl (cL, (1, .inr (.inl (vp_updL fo 0 (crS L x y L.length).toInt64)))))]) (va_A [(x0, .inr (1, [.ref r0, .ref r1, .ref r2, .ref r3, .int (nI rn)])), (r0, .inr (0, [.ref a0, .int (nI L.length)])), (a0, .inl (cA, (100, .inl f))), (o, .inl (cL, (1, .inr (.inl fo))))] sz)) 0 0 (va_A [(x0, .inr (1, [.ref r0, .ref r1, .ref r2, .ref r3, .int (nI rn)])), (r0, .inr (0, [.ref a0, .int (nI L.length)])), (a0, .inl (cA, (100, .inl f))), (o, .inl (cL, (1, .inr (.inl fo))))] sz) := by
  refine g_ofH (cc := cL_crosses) (maxL := 6) (ret := (some .int)) (by decide) rfl (Nat.le_of_ble_eq_true rfl) (fun p e s m below meth c ls hx hb hr hml hts hown hlocks htab hP hKl hl A hA hD hS hZ => ?_)
  have hK : va_K (dC, dI) vwCl [(cA, .int)] s := hKl.sub [0] rfl
  have hl : lv_has ls 6 [(0, .ref x0), (1, .int (nI 0)), (2, .int x), (3, .int y), (4, .ref o)] := hl
  refine lv_aload hx hb dL_crosses_0 (lv_at hl 4 rfl) ?_
  refine lv_iconst (v := 0) hx hb dL_crosses_2 (by decide) ?_
  refine lv_aload_n hx hb dL_crosses_3 rfl (lv_at hl 0 rfl) ?_
  refine lv_iload_n hx hb dL_crosses_4 rfl (lv_at hl 1 rfl) ?_
  refine lv_iload_n hx hb dL_crosses_5 rfl (lv_at hl 2 rfl) ?_
  refine lv_iload_n hx hb dL_crosses_6 rfl (lv_at hl 3 rfl) ?_
  refine g_RVi (As := [.int (nI 0), .int x, .int y]) (rest := [.int 0, .ref o]) ⟨hx, hb, hml, hown, hts⟩ (mt_X1_crosses0 l dC dI cA s.heap.size x0 r0 r1 r2 r3 rn a0 L f x y hR h0 h1 h2 h3 h4) (cwV 3 hts gL_crosses_X1_crosses rfl rfl rfl hdX1_crosses ⟨Nat.le_of_ble_eq_true rfl, Nat.le_of_ble_eq_true rfl⟩) hP hK hD [0, 1, 2] (by decide) rfl (va_recv hK hP (ci := 1) (q0 := 0) rfl rfl) rfl hl.1 rfl (Nat.le_of_ble_eq_true rfl) dL_crosses_7 (Nat.zero_le _) (Nat.zero_le _) ?_
  refine lv_i2l (v := (crS L x y L.length).toInt64) hx hb dL_crosses_10 rfl ?_
  refine va_last hx hb hKl hP hD hS 3 1 rfl rfl (vp_in_nI (n := 0) (by omega) (by decide)) dL_crosses_11 (fun H locs hP hD hS => ?_)
  rw [show (0 : Int32).toNatClampNeg = 0 from by decide] at hP hD
  have hP : va_P (dC, dI) vwCl [(x0, .inr (1, [.ref r0, .ref r1, .ref r2, .ref r3, .int (nI rn)])), (r0, .inr (0, [.ref a0, .int (nI L.length)])), (a0, .inl (cA, (100, .inl f))), (o, .inl (cL, (1, .inr (.inl (vp_updL fo 0 ((crS L x y L.length).toInt64))))))] H := hP
  have hD : va_D A [(x0, .inr (1, [.ref r0, .ref r1, .ref r2, .ref r3, .int (nI rn)])), (r0, .inr (0, [.ref a0, .int (nI L.length)])), (a0, .inl (cA, (100, .inl f))), (o, .inl (cL, (1, .inr (.inl (vp_updL fo 0 ((crS L x y L.length).toInt64))))))] := hD
  refine lv_goto (tgt := 23) hx hb dL_crosses_12 (by decide) ?_
  refine lv_iconst (v := 0) hx hb dL_crosses_23 (by decide) ?_
  exact g_endMi hx hb hr hlocks hP hS dL_crosses_24 () rfl rfl trivial

abbrev mt_L_crosses1_rm : Room := { frames := 4, cells := 0, slots := 0, locals := 94 }
set_option maxHeartbeats 4000000 in
set_option maxRecDepth 100000 in
theorem mt_L_crosses1 (l : Launch) (htr : l.stackTraces = false) (dC : Nat → ClassId) (dI : Nat → Nat → Nat) (cA cL : ClassId) (sz : Nat) (x0 : Nat) (r0 : Nat) (r1 : Nat) (r2 : Nat) (r3 : Nat) (rn : Nat) (a1 : Nat) (L : List Int32) (f : Nat → Int32) (x : Int32) (y : Int32) (o : Nat) (fo : Nat → Int64) (hR : RI L f) (h0 : ¬ x < 0) (h1 : x < nI rn) (h2 : ¬ y < 0) (h3 : y < nI rn) (h4 : ¬ x = y) : Met l yL_crosses wsL_crosses mt_L_crosses1_rm (va_Pc [.ref x0, .int (nI 1), .int x, .int y, .ref o] (gBT (dC, dI) [(cA, .int), (cL, .long)] [(x0, .inr (1, [.ref r0, .ref r1, .ref r2, .ref r3, .int (nI rn)])), (r1, .inr (0, [.ref a1, .int (nI L.length)])), (a1, .inl (cA, (100, .inl f))), (o, .inl (cL, (1, .inr (.inl fo))))] sz)) (gM (dC, dI) (some (.int 0)) (fun u : Unit => True) (fun u : Unit => [(x0, .inr (1, [.ref r0, .ref r1, .ref r2, .ref r3, .int (nI rn)])), (r1, .inr (0, [.ref a1, .int (nI L.length)])), (a1, .inl (cA, (100, .inl f))), (o, .inl (cL, (1, .inr (.inl (vp_updL fo 0 (crS L x y L.length).toInt64)))))]) (va_A [(x0, .inr (1, [.ref r0, .ref r1, .ref r2, .ref r3, .int (nI rn)])), (r1, .inr (0, [.ref a1, .int (nI L.length)])), (a1, .inl (cA, (100, .inl f))), (o, .inl (cL, (1, .inr (.inl fo))))] sz)) 0 0 (va_A [(x0, .inr (1, [.ref r0, .ref r1, .ref r2, .ref r3, .int (nI rn)])), (r1, .inr (0, [.ref a1, .int (nI L.length)])), (a1, .inl (cA, (100, .inl f))), (o, .inl (cL, (1, .inr (.inl fo))))] sz) := by
  refine g_ofH (cc := cL_crosses) (maxL := 6) (ret := (some .int)) (by decide) rfl (Nat.le_of_ble_eq_true rfl) (fun p e s m below meth c ls hx hb hr hml hts hown hlocks htab hP hKl hl A hA hD hS hZ => ?_)
  have hK : va_K (dC, dI) vwCl [(cA, .int)] s := hKl.sub [0] rfl
  have hl : lv_has ls 6 [(0, .ref x0), (1, .int (nI 1)), (2, .int x), (3, .int y), (4, .ref o)] := hl
  refine lv_aload hx hb dL_crosses_0 (lv_at hl 4 rfl) ?_
  refine lv_iconst (v := 0) hx hb dL_crosses_2 (by decide) ?_
  refine lv_aload_n hx hb dL_crosses_3 rfl (lv_at hl 0 rfl) ?_
  refine lv_iload_n hx hb dL_crosses_4 rfl (lv_at hl 1 rfl) ?_
  refine lv_iload_n hx hb dL_crosses_5 rfl (lv_at hl 2 rfl) ?_
  refine lv_iload_n hx hb dL_crosses_6 rfl (lv_at hl 3 rfl) ?_
  refine g_RVi (As := [.int (nI 1), .int x, .int y]) (rest := [.int 0, .ref o]) ⟨hx, hb, hml, hown, hts⟩ (mt_X1_crosses1 l dC dI cA s.heap.size x0 r0 r1 r2 r3 rn a1 L f x y hR h0 h1 h2 h3 h4) (cwV 3 hts gL_crosses_X1_crosses rfl rfl rfl hdX1_crosses ⟨Nat.le_of_ble_eq_true rfl, Nat.le_of_ble_eq_true rfl⟩) hP hK hD [0, 1, 2] (by decide) rfl (va_recv hK hP (ci := 1) (q0 := 0) rfl rfl) rfl hl.1 rfl (Nat.le_of_ble_eq_true rfl) dL_crosses_7 (Nat.zero_le _) (Nat.zero_le _) ?_
  refine lv_i2l (v := (crS L x y L.length).toInt64) hx hb dL_crosses_10 rfl ?_
  refine va_last hx hb hKl hP hD hS 3 1 rfl rfl (vp_in_nI (n := 0) (by omega) (by decide)) dL_crosses_11 (fun H locs hP hD hS => ?_)
  rw [show (0 : Int32).toNatClampNeg = 0 from by decide] at hP hD
  have hP : va_P (dC, dI) vwCl [(x0, .inr (1, [.ref r0, .ref r1, .ref r2, .ref r3, .int (nI rn)])), (r1, .inr (0, [.ref a1, .int (nI L.length)])), (a1, .inl (cA, (100, .inl f))), (o, .inl (cL, (1, .inr (.inl (vp_updL fo 0 ((crS L x y L.length).toInt64))))))] H := hP
  have hD : va_D A [(x0, .inr (1, [.ref r0, .ref r1, .ref r2, .ref r3, .int (nI rn)])), (r1, .inr (0, [.ref a1, .int (nI L.length)])), (a1, .inl (cA, (100, .inl f))), (o, .inl (cL, (1, .inr (.inl (vp_updL fo 0 ((crS L x y L.length).toInt64))))))] := hD
  refine lv_goto (tgt := 23) hx hb dL_crosses_12 (by decide) ?_
  refine lv_iconst (v := 0) hx hb dL_crosses_23 (by decide) ?_
  exact g_endMi hx hb hr hlocks hP hS dL_crosses_24 () rfl rfl trivial

abbrev mt_L_crosses_1_rm : Room := { frames := 8, cells := 1, slots := 6, locals := 133 }
set_option maxHeartbeats 4000000 in
set_option maxRecDepth 100000 in
theorem mt_L_crosses_1 (l : Launch) (htr : l.stackTraces = false) (dC : Nat → ClassId) (dI : Nat → Nat → Nat) (cA cL : ClassId) (sz : Nat) (x0 : Nat) (wd : Int32) (x : Int32) (y : Int32) (r0 : Nat) (r1 : Nat) (r2 : Nat) (r3 : Nat) (R9 : Int32) (o : Nat) (fo : Nat → Int64) (hbad : wd < 0 ∨ 1 < wd) : Met l yL_crosses wsL_crosses mt_L_crosses_1_rm (va_Pc [.ref x0, .int wd, .int x, .int y, .ref o] (gBT (dC, dI) [(cA, .int), (cL, .long)] [(x0, .inr (1, [.ref r0, .ref r1, .ref r2, .ref r3, .int R9])), (o, .inl (cL, (1, .inr (.inl fo))))] sz)) (gM (dC, dI) (some (.int 1)) (fun u : Unit => True) (fun u : Unit => [(x0, .inr (1, [.ref r0, .ref r1, .ref r2, .ref r3, .int R9])), (o, .inl (cL, (1, .inr (.inl fo))))]) (va_A [(x0, .inr (1, [.ref r0, .ref r1, .ref r2, .ref r3, .int R9])), (o, .inl (cL, (1, .inr (.inl fo))))] sz)) 1 6 (va_A [(x0, .inr (1, [.ref r0, .ref r1, .ref r2, .ref r3, .int R9])), (o, .inl (cL, (1, .inr (.inl fo))))] sz) := by
  refine g_ofH (cc := cL_crosses) (maxL := 6) (ret := (some .int)) (by decide) rfl (Nat.le_of_ble_eq_true rfl) (fun p e s m below meth c ls hx hb hr hml hts hown hlocks htab hP hKl hl A hA hD hS hZ => ?_)
  have hK : va_K (dC, dI) vwCl [(cA, .int)] s := hKl.sub [0] rfl
  have hl : lv_has ls 6 [(0, .ref x0), (1, .int wd), (2, .int x), (3, .int y), (4, .ref o)] := hl
  refine lv_aload hx hb dL_crosses_0 (lv_at hl 4 rfl) ?_
  refine lv_iconst (v := 0) hx hb dL_crosses_2 (by decide) ?_
  refine lv_aload_n hx hb dL_crosses_3 rfl (lv_at hl 0 rfl) ?_
  refine lv_iload_n hx hb dL_crosses_4 rfl (lv_at hl 1 rfl) ?_
  refine lv_iload_n hx hb dL_crosses_5 rfl (lv_at hl 2 rfl) ?_
  refine lv_iload_n hx hb dL_crosses_6 rfl (lv_at hl 3 rfl) ?_
  refine g_HT (As := [.int wd, .int x, .int y]) (rest := [.int 0, .ref o]) (E := gIO) ⟨hx, hb, hml, hown, hts⟩ (th_X1_crosses_1 l htr dC dI cA s.heap.size x0 wd x y hbad) (cwV 3 hts gL_crosses_X1_crosses rfl rfl rfl hdX1_crosses ⟨Nat.le_of_ble_eq_true rfl, Nat.le_of_ble_eq_true rfl⟩) hP hK hD hS hA hZ [] (by decide) rfl (va_recv hK hP (ci := 1) (q0 := 0) rfl rfl) rfl hl.1 rfl (Nat.le_of_ble_eq_true rfl) dL_crosses_7 (Nat.le_of_ble_eq_true rfl) (Nat.le_of_ble_eq_true rfl) (own := RL) hown [] ⟨0, 12, 15, 19⟩ [⟨0, 12, 19, 13⟩] (by rw [htab]; rfl) (fun z hz => absurd hz List.not_mem_nil) (by decide) (by decide) (hts (.classLink RL 19 "java/lang/IndexOutOfBoundsException") (List.mem_of_getElem? (i := 1) rfl)) (List.mem_of_getElem? (i := 1) rfl) (fun q9 H locs hP hS => ?_)
  refine lv_astore (lv' := [(5, .ref q9), (0, .ref x0), (1, .int wd), (2, .int x), (3, .int y), (4, .ref o)]) hx hb dL_crosses_15 hl (by decide) rfl (fun ls hl => ?_)
  refine lv_iconst (v := 1) hx hb dL_crosses_17 (by decide) ?_
  exact g_endMi hx hb hr hlocks hP hS dL_crosses_18 () rfl rfl trivial

abbrev mt_L_crosses_1b_0_rm : Room := { frames := 8, cells := 1, slots := 6, locals := 134 }
set_option maxHeartbeats 4000000 in
set_option maxRecDepth 100000 in
theorem mt_L_crosses_1b_0 (l : Launch) (htr : l.stackTraces = false) (dC : Nat → ClassId) (dI : Nat → Nat → Nat) (cA cL : ClassId) (sz : Nat) (x0 : Nat) (r0 : Nat) (r1 : Nat) (r2 : Nat) (r3 : Nat) (rn : Nat) (x : Int32) (y : Int32) (o : Nat) (fo : Nat → Int64) (hbad : x < 0 ∨ nI rn ≤ x) : Met l yL_crosses wsL_crosses mt_L_crosses_1b_0_rm (va_Pc [.ref x0, .int (nI 0), .int x, .int y, .ref o] (gBT (dC, dI) [(cA, .int), (cL, .long)] [(x0, .inr (1, [.ref r0, .ref r1, .ref r2, .ref r3, .int (nI rn)])), (o, .inl (cL, (1, .inr (.inl fo))))] sz)) (gM (dC, dI) (some (.int 1)) (fun u : Unit => True) (fun u : Unit => [(x0, .inr (1, [.ref r0, .ref r1, .ref r2, .ref r3, .int (nI rn)])), (o, .inl (cL, (1, .inr (.inl fo))))]) (va_A [(x0, .inr (1, [.ref r0, .ref r1, .ref r2, .ref r3, .int (nI rn)])), (o, .inl (cL, (1, .inr (.inl fo))))] sz)) 1 6 (va_A [(x0, .inr (1, [.ref r0, .ref r1, .ref r2, .ref r3, .int (nI rn)])), (o, .inl (cL, (1, .inr (.inl fo))))] sz) := by
  refine g_ofH (cc := cL_crosses) (maxL := 6) (ret := (some .int)) (by decide) rfl (Nat.le_of_ble_eq_true rfl) (fun p e s m below meth c ls hx hb hr hml hts hown hlocks htab hP hKl hl A hA hD hS hZ => ?_)
  have hK : va_K (dC, dI) vwCl [(cA, .int)] s := hKl.sub [0] rfl
  have hl : lv_has ls 6 [(0, .ref x0), (1, .int (nI 0)), (2, .int x), (3, .int y), (4, .ref o)] := hl
  refine lv_aload hx hb dL_crosses_0 (lv_at hl 4 rfl) ?_
  refine lv_iconst (v := 0) hx hb dL_crosses_2 (by decide) ?_
  refine lv_aload_n hx hb dL_crosses_3 rfl (lv_at hl 0 rfl) ?_
  refine lv_iload_n hx hb dL_crosses_4 rfl (lv_at hl 1 rfl) ?_
  refine lv_iload_n hx hb dL_crosses_5 rfl (lv_at hl 2 rfl) ?_
  refine lv_iload_n hx hb dL_crosses_6 rfl (lv_at hl 3 rfl) ?_
  refine g_HT (As := [.int (nI 0), .int x, .int y]) (rest := [.int 0, .ref o]) (E := gIO) ⟨hx, hb, hml, hown, hts⟩ (th_X1_crosses_1b_0 l htr dC dI cA s.heap.size x0 r0 r1 r2 r3 rn x y hbad) (cwV 3 hts gL_crosses_X1_crosses rfl rfl rfl hdX1_crosses ⟨Nat.le_of_ble_eq_true rfl, Nat.le_of_ble_eq_true rfl⟩) hP hK hD hS hA hZ [0] (by decide) rfl (va_recv hK hP (ci := 1) (q0 := 0) rfl rfl) rfl hl.1 rfl (Nat.le_of_ble_eq_true rfl) dL_crosses_7 (Nat.le_of_ble_eq_true rfl) (Nat.le_of_ble_eq_true rfl) (own := RL) hown [] ⟨0, 12, 15, 19⟩ [⟨0, 12, 19, 13⟩] (by rw [htab]; rfl) (fun z hz => absurd hz List.not_mem_nil) (by decide) (by decide) (hts (.classLink RL 19 "java/lang/IndexOutOfBoundsException") (List.mem_of_getElem? (i := 1) rfl)) (List.mem_of_getElem? (i := 1) rfl) (fun q9 H locs hP hS => ?_)
  refine lv_astore (lv' := [(5, .ref q9), (0, .ref x0), (1, .int (nI 0)), (2, .int x), (3, .int y), (4, .ref o)]) hx hb dL_crosses_15 hl (by decide) rfl (fun ls hl => ?_)
  refine lv_iconst (v := 1) hx hb dL_crosses_17 (by decide) ?_
  exact g_endMi hx hb hr hlocks hP hS dL_crosses_18 () rfl rfl trivial

abbrev mt_L_crosses_1c_0_rm : Room := { frames := 8, cells := 1, slots := 6, locals := 134 }
set_option maxHeartbeats 4000000 in
set_option maxRecDepth 100000 in
theorem mt_L_crosses_1c_0 (l : Launch) (htr : l.stackTraces = false) (dC : Nat → ClassId) (dI : Nat → Nat → Nat) (cA cL : ClassId) (sz : Nat) (x0 : Nat) (r0 : Nat) (r1 : Nat) (r2 : Nat) (r3 : Nat) (rn : Nat) (x : Int32) (y : Int32) (o : Nat) (fo : Nat → Int64) (h0 : ¬ x < 0) (h1 : x < nI rn) (hbad : y < 0 ∨ nI rn ≤ y) : Met l yL_crosses wsL_crosses mt_L_crosses_1c_0_rm (va_Pc [.ref x0, .int (nI 0), .int x, .int y, .ref o] (gBT (dC, dI) [(cA, .int), (cL, .long)] [(x0, .inr (1, [.ref r0, .ref r1, .ref r2, .ref r3, .int (nI rn)])), (o, .inl (cL, (1, .inr (.inl fo))))] sz)) (gM (dC, dI) (some (.int 1)) (fun u : Unit => True) (fun u : Unit => [(x0, .inr (1, [.ref r0, .ref r1, .ref r2, .ref r3, .int (nI rn)])), (o, .inl (cL, (1, .inr (.inl fo))))]) (va_A [(x0, .inr (1, [.ref r0, .ref r1, .ref r2, .ref r3, .int (nI rn)])), (o, .inl (cL, (1, .inr (.inl fo))))] sz)) 1 6 (va_A [(x0, .inr (1, [.ref r0, .ref r1, .ref r2, .ref r3, .int (nI rn)])), (o, .inl (cL, (1, .inr (.inl fo))))] sz) := by
  refine g_ofH (cc := cL_crosses) (maxL := 6) (ret := (some .int)) (by decide) rfl (Nat.le_of_ble_eq_true rfl) (fun p e s m below meth c ls hx hb hr hml hts hown hlocks htab hP hKl hl A hA hD hS hZ => ?_)
  have hK : va_K (dC, dI) vwCl [(cA, .int)] s := hKl.sub [0] rfl
  have hl : lv_has ls 6 [(0, .ref x0), (1, .int (nI 0)), (2, .int x), (3, .int y), (4, .ref o)] := hl
  refine lv_aload hx hb dL_crosses_0 (lv_at hl 4 rfl) ?_
  refine lv_iconst (v := 0) hx hb dL_crosses_2 (by decide) ?_
  refine lv_aload_n hx hb dL_crosses_3 rfl (lv_at hl 0 rfl) ?_
  refine lv_iload_n hx hb dL_crosses_4 rfl (lv_at hl 1 rfl) ?_
  refine lv_iload_n hx hb dL_crosses_5 rfl (lv_at hl 2 rfl) ?_
  refine lv_iload_n hx hb dL_crosses_6 rfl (lv_at hl 3 rfl) ?_
  refine g_HT (As := [.int (nI 0), .int x, .int y]) (rest := [.int 0, .ref o]) (E := gIO) ⟨hx, hb, hml, hown, hts⟩ (th_X1_crosses_1c_0 l htr dC dI cA s.heap.size x0 r0 r1 r2 r3 rn x y h0 h1 hbad) (cwV 3 hts gL_crosses_X1_crosses rfl rfl rfl hdX1_crosses ⟨Nat.le_of_ble_eq_true rfl, Nat.le_of_ble_eq_true rfl⟩) hP hK hD hS hA hZ [0] (by decide) rfl (va_recv hK hP (ci := 1) (q0 := 0) rfl rfl) rfl hl.1 rfl (Nat.le_of_ble_eq_true rfl) dL_crosses_7 (Nat.le_of_ble_eq_true rfl) (Nat.le_of_ble_eq_true rfl) (own := RL) hown [] ⟨0, 12, 15, 19⟩ [⟨0, 12, 19, 13⟩] (by rw [htab]; rfl) (fun z hz => absurd hz List.not_mem_nil) (by decide) (by decide) (hts (.classLink RL 19 "java/lang/IndexOutOfBoundsException") (List.mem_of_getElem? (i := 1) rfl)) (List.mem_of_getElem? (i := 1) rfl) (fun q9 H locs hP hS => ?_)
  refine lv_astore (lv' := [(5, .ref q9), (0, .ref x0), (1, .int (nI 0)), (2, .int x), (3, .int y), (4, .ref o)]) hx hb dL_crosses_15 hl (by decide) rfl (fun ls hl => ?_)
  refine lv_iconst (v := 1) hx hb dL_crosses_17 (by decide) ?_
  exact g_endMi hx hb hr hlocks hP hS dL_crosses_18 () rfl rfl trivial

abbrev mt_L_crosses_2_0_rm : Room := { frames := 7, cells := 1, slots := 6, locals := 113 }
set_option maxHeartbeats 4000000 in
set_option maxRecDepth 100000 in
theorem mt_L_crosses_2_0 (l : Launch) (htr : l.stackTraces = false) (dC : Nat → ClassId) (dI : Nat → Nat → Nat) (cA cL : ClassId) (sz : Nat) (x0 : Nat) (r0 : Nat) (r1 : Nat) (r2 : Nat) (r3 : Nat) (rn : Nat) (x : Int32) (y : Int32) (o : Nat) (fo : Nat → Int64) (h0 : ¬ x < 0) (h1 : x < nI rn) (h2 : ¬ y < 0) (h3 : y < nI rn) (h4 : x = y) : Met l yL_crosses wsL_crosses mt_L_crosses_2_0_rm (va_Pc [.ref x0, .int (nI 0), .int x, .int y, .ref o] (gBT (dC, dI) [(cA, .int), (cL, .long)] [(x0, .inr (1, [.ref r0, .ref r1, .ref r2, .ref r3, .int (nI rn)])), (o, .inl (cL, (1, .inr (.inl fo))))] sz)) (gM (dC, dI) (some (.int 2)) (fun u : Unit => True) (fun u : Unit => [(x0, .inr (1, [.ref r0, .ref r1, .ref r2, .ref r3, .int (nI rn)])), (o, .inl (cL, (1, .inr (.inl fo))))]) (va_A [(x0, .inr (1, [.ref r0, .ref r1, .ref r2, .ref r3, .int (nI rn)])), (o, .inl (cL, (1, .inr (.inl fo))))] sz)) 1 6 (va_A [(x0, .inr (1, [.ref r0, .ref r1, .ref r2, .ref r3, .int (nI rn)])), (o, .inl (cL, (1, .inr (.inl fo))))] sz) := by
  refine g_ofH (cc := cL_crosses) (maxL := 6) (ret := (some .int)) (by decide) rfl (Nat.le_of_ble_eq_true rfl) (fun p e s m below meth c ls hx hb hr hml hts hown hlocks htab hP hKl hl A hA hD hS hZ => ?_)
  have hK : va_K (dC, dI) vwCl [(cA, .int)] s := hKl.sub [0] rfl
  have hl : lv_has ls 6 [(0, .ref x0), (1, .int (nI 0)), (2, .int x), (3, .int y), (4, .ref o)] := hl
  refine lv_aload hx hb dL_crosses_0 (lv_at hl 4 rfl) ?_
  refine lv_iconst (v := 0) hx hb dL_crosses_2 (by decide) ?_
  refine lv_aload_n hx hb dL_crosses_3 rfl (lv_at hl 0 rfl) ?_
  refine lv_iload_n hx hb dL_crosses_4 rfl (lv_at hl 1 rfl) ?_
  refine lv_iload_n hx hb dL_crosses_5 rfl (lv_at hl 2 rfl) ?_
  refine lv_iload_n hx hb dL_crosses_6 rfl (lv_at hl 3 rfl) ?_
  refine g_HT (As := [.int (nI 0), .int x, .int y]) (rest := [.int 0, .ref o]) (E := gIA) ⟨hx, hb, hml, hown, hts⟩ (th_X1_crosses_2_0 l htr dC dI cA s.heap.size x0 r0 r1 r2 r3 rn x y h0 h1 h2 h3 h4) (cwV 3 hts gL_crosses_X1_crosses rfl rfl rfl hdX1_crosses ⟨Nat.le_of_ble_eq_true rfl, Nat.le_of_ble_eq_true rfl⟩) hP hK hD hS hA hZ [0] (by decide) rfl (va_recv hK hP (ci := 1) (q0 := 0) rfl rfl) rfl hl.1 rfl (Nat.le_of_ble_eq_true rfl) dL_crosses_7 (Nat.le_of_ble_eq_true rfl) (Nat.le_of_ble_eq_true rfl) (own := RL) hown [⟨0, 12, 15, 19⟩] ⟨0, 12, 19, 13⟩ [] (by rw [htab]; rfl) (fun z hz => by obtain rfl := List.mem_singleton.mp hz; exact ⟨by decide, gIO, (hts (.classLink RL 19 "java/lang/IndexOutOfBoundsException") (List.mem_of_getElem? (i := 1) rfl)), by decide +kernel⟩) (by decide) (by decide) (hts (.classLink RL 13 "java/lang/IllegalArgumentException") (List.mem_of_getElem? (i := 2) rfl)) (List.mem_of_getElem? (i := 0) rfl) (fun q9 H locs hP hS => ?_)
  refine lv_astore (lv' := [(5, .ref q9), (0, .ref x0), (1, .int (nI 0)), (2, .int x), (3, .int y), (4, .ref o)]) hx hb dL_crosses_19 hl (by decide) rfl (fun ls hl => ?_)
  refine lv_iconst (v := 2) hx hb dL_crosses_21 (by decide) ?_
  exact g_endMi hx hb hr hlocks hP hS dL_crosses_22 () rfl rfl trivial

abbrev mt_L_crosses_1b_1_rm : Room := { frames := 8, cells := 1, slots := 6, locals := 134 }
set_option maxHeartbeats 4000000 in
set_option maxRecDepth 100000 in
theorem mt_L_crosses_1b_1 (l : Launch) (htr : l.stackTraces = false) (dC : Nat → ClassId) (dI : Nat → Nat → Nat) (cA cL : ClassId) (sz : Nat) (x0 : Nat) (r0 : Nat) (r1 : Nat) (r2 : Nat) (r3 : Nat) (rn : Nat) (x : Int32) (y : Int32) (o : Nat) (fo : Nat → Int64) (hbad : x < 0 ∨ nI rn ≤ x) : Met l yL_crosses wsL_crosses mt_L_crosses_1b_1_rm (va_Pc [.ref x0, .int (nI 1), .int x, .int y, .ref o] (gBT (dC, dI) [(cA, .int), (cL, .long)] [(x0, .inr (1, [.ref r0, .ref r1, .ref r2, .ref r3, .int (nI rn)])), (o, .inl (cL, (1, .inr (.inl fo))))] sz)) (gM (dC, dI) (some (.int 1)) (fun u : Unit => True) (fun u : Unit => [(x0, .inr (1, [.ref r0, .ref r1, .ref r2, .ref r3, .int (nI rn)])), (o, .inl (cL, (1, .inr (.inl fo))))]) (va_A [(x0, .inr (1, [.ref r0, .ref r1, .ref r2, .ref r3, .int (nI rn)])), (o, .inl (cL, (1, .inr (.inl fo))))] sz)) 1 6 (va_A [(x0, .inr (1, [.ref r0, .ref r1, .ref r2, .ref r3, .int (nI rn)])), (o, .inl (cL, (1, .inr (.inl fo))))] sz) := by
  refine g_ofH (cc := cL_crosses) (maxL := 6) (ret := (some .int)) (by decide) rfl (Nat.le_of_ble_eq_true rfl) (fun p e s m below meth c ls hx hb hr hml hts hown hlocks htab hP hKl hl A hA hD hS hZ => ?_)
  have hK : va_K (dC, dI) vwCl [(cA, .int)] s := hKl.sub [0] rfl
  have hl : lv_has ls 6 [(0, .ref x0), (1, .int (nI 1)), (2, .int x), (3, .int y), (4, .ref o)] := hl
  refine lv_aload hx hb dL_crosses_0 (lv_at hl 4 rfl) ?_
  refine lv_iconst (v := 0) hx hb dL_crosses_2 (by decide) ?_
  refine lv_aload_n hx hb dL_crosses_3 rfl (lv_at hl 0 rfl) ?_
  refine lv_iload_n hx hb dL_crosses_4 rfl (lv_at hl 1 rfl) ?_
  refine lv_iload_n hx hb dL_crosses_5 rfl (lv_at hl 2 rfl) ?_
  refine lv_iload_n hx hb dL_crosses_6 rfl (lv_at hl 3 rfl) ?_
  refine g_HT (As := [.int (nI 1), .int x, .int y]) (rest := [.int 0, .ref o]) (E := gIO) ⟨hx, hb, hml, hown, hts⟩ (th_X1_crosses_1b_1 l htr dC dI cA s.heap.size x0 r0 r1 r2 r3 rn x y hbad) (cwV 3 hts gL_crosses_X1_crosses rfl rfl rfl hdX1_crosses ⟨Nat.le_of_ble_eq_true rfl, Nat.le_of_ble_eq_true rfl⟩) hP hK hD hS hA hZ [0] (by decide) rfl (va_recv hK hP (ci := 1) (q0 := 0) rfl rfl) rfl hl.1 rfl (Nat.le_of_ble_eq_true rfl) dL_crosses_7 (Nat.le_of_ble_eq_true rfl) (Nat.le_of_ble_eq_true rfl) (own := RL) hown [] ⟨0, 12, 15, 19⟩ [⟨0, 12, 19, 13⟩] (by rw [htab]; rfl) (fun z hz => absurd hz List.not_mem_nil) (by decide) (by decide) (hts (.classLink RL 19 "java/lang/IndexOutOfBoundsException") (List.mem_of_getElem? (i := 1) rfl)) (List.mem_of_getElem? (i := 1) rfl) (fun q9 H locs hP hS => ?_)
  refine lv_astore (lv' := [(5, .ref q9), (0, .ref x0), (1, .int (nI 1)), (2, .int x), (3, .int y), (4, .ref o)]) hx hb dL_crosses_15 hl (by decide) rfl (fun ls hl => ?_)
  refine lv_iconst (v := 1) hx hb dL_crosses_17 (by decide) ?_
  exact g_endMi hx hb hr hlocks hP hS dL_crosses_18 () rfl rfl trivial

abbrev mt_L_crosses_1c_1_rm : Room := { frames := 8, cells := 1, slots := 6, locals := 134 }
set_option maxHeartbeats 4000000 in
set_option maxRecDepth 100000 in
theorem mt_L_crosses_1c_1 (l : Launch) (htr : l.stackTraces = false) (dC : Nat → ClassId) (dI : Nat → Nat → Nat) (cA cL : ClassId) (sz : Nat) (x0 : Nat) (r0 : Nat) (r1 : Nat) (r2 : Nat) (r3 : Nat) (rn : Nat) (x : Int32) (y : Int32) (o : Nat) (fo : Nat → Int64) (h0 : ¬ x < 0) (h1 : x < nI rn) (hbad : y < 0 ∨ nI rn ≤ y) : Met l yL_crosses wsL_crosses mt_L_crosses_1c_1_rm (va_Pc [.ref x0, .int (nI 1), .int x, .int y, .ref o] (gBT (dC, dI) [(cA, .int), (cL, .long)] [(x0, .inr (1, [.ref r0, .ref r1, .ref r2, .ref r3, .int (nI rn)])), (o, .inl (cL, (1, .inr (.inl fo))))] sz)) (gM (dC, dI) (some (.int 1)) (fun u : Unit => True) (fun u : Unit => [(x0, .inr (1, [.ref r0, .ref r1, .ref r2, .ref r3, .int (nI rn)])), (o, .inl (cL, (1, .inr (.inl fo))))]) (va_A [(x0, .inr (1, [.ref r0, .ref r1, .ref r2, .ref r3, .int (nI rn)])), (o, .inl (cL, (1, .inr (.inl fo))))] sz)) 1 6 (va_A [(x0, .inr (1, [.ref r0, .ref r1, .ref r2, .ref r3, .int (nI rn)])), (o, .inl (cL, (1, .inr (.inl fo))))] sz) := by
  refine g_ofH (cc := cL_crosses) (maxL := 6) (ret := (some .int)) (by decide) rfl (Nat.le_of_ble_eq_true rfl) (fun p e s m below meth c ls hx hb hr hml hts hown hlocks htab hP hKl hl A hA hD hS hZ => ?_)
  have hK : va_K (dC, dI) vwCl [(cA, .int)] s := hKl.sub [0] rfl
  have hl : lv_has ls 6 [(0, .ref x0), (1, .int (nI 1)), (2, .int x), (3, .int y), (4, .ref o)] := hl
  refine lv_aload hx hb dL_crosses_0 (lv_at hl 4 rfl) ?_
  refine lv_iconst (v := 0) hx hb dL_crosses_2 (by decide) ?_
  refine lv_aload_n hx hb dL_crosses_3 rfl (lv_at hl 0 rfl) ?_
  refine lv_iload_n hx hb dL_crosses_4 rfl (lv_at hl 1 rfl) ?_
  refine lv_iload_n hx hb dL_crosses_5 rfl (lv_at hl 2 rfl) ?_
  refine lv_iload_n hx hb dL_crosses_6 rfl (lv_at hl 3 rfl) ?_
  refine g_HT (As := [.int (nI 1), .int x, .int y]) (rest := [.int 0, .ref o]) (E := gIO) ⟨hx, hb, hml, hown, hts⟩ (th_X1_crosses_1c_1 l htr dC dI cA s.heap.size x0 r0 r1 r2 r3 rn x y h0 h1 hbad) (cwV 3 hts gL_crosses_X1_crosses rfl rfl rfl hdX1_crosses ⟨Nat.le_of_ble_eq_true rfl, Nat.le_of_ble_eq_true rfl⟩) hP hK hD hS hA hZ [0] (by decide) rfl (va_recv hK hP (ci := 1) (q0 := 0) rfl rfl) rfl hl.1 rfl (Nat.le_of_ble_eq_true rfl) dL_crosses_7 (Nat.le_of_ble_eq_true rfl) (Nat.le_of_ble_eq_true rfl) (own := RL) hown [] ⟨0, 12, 15, 19⟩ [⟨0, 12, 19, 13⟩] (by rw [htab]; rfl) (fun z hz => absurd hz List.not_mem_nil) (by decide) (by decide) (hts (.classLink RL 19 "java/lang/IndexOutOfBoundsException") (List.mem_of_getElem? (i := 1) rfl)) (List.mem_of_getElem? (i := 1) rfl) (fun q9 H locs hP hS => ?_)
  refine lv_astore (lv' := [(5, .ref q9), (0, .ref x0), (1, .int (nI 1)), (2, .int x), (3, .int y), (4, .ref o)]) hx hb dL_crosses_15 hl (by decide) rfl (fun ls hl => ?_)
  refine lv_iconst (v := 1) hx hb dL_crosses_17 (by decide) ?_
  exact g_endMi hx hb hr hlocks hP hS dL_crosses_18 () rfl rfl trivial

abbrev mt_L_crosses_2_1_rm : Room := { frames := 7, cells := 1, slots := 6, locals := 113 }
set_option maxHeartbeats 4000000 in
set_option maxRecDepth 100000 in
theorem mt_L_crosses_2_1 (l : Launch) (htr : l.stackTraces = false) (dC : Nat → ClassId) (dI : Nat → Nat → Nat) (cA cL : ClassId) (sz : Nat) (x0 : Nat) (r0 : Nat) (r1 : Nat) (r2 : Nat) (r3 : Nat) (rn : Nat) (x : Int32) (y : Int32) (o : Nat) (fo : Nat → Int64) (h0 : ¬ x < 0) (h1 : x < nI rn) (h2 : ¬ y < 0) (h3 : y < nI rn) (h4 : x = y) : Met l yL_crosses wsL_crosses mt_L_crosses_2_1_rm (va_Pc [.ref x0, .int (nI 1), .int x, .int y, .ref o] (gBT (dC, dI) [(cA, .int), (cL, .long)] [(x0, .inr (1, [.ref r0, .ref r1, .ref r2, .ref r3, .int (nI rn)])), (o, .inl (cL, (1, .inr (.inl fo))))] sz)) (gM (dC, dI) (some (.int 2)) (fun u : Unit => True) (fun u : Unit => [(x0, .inr (1, [.ref r0, .ref r1, .ref r2, .ref r3, .int (nI rn)])), (o, .inl (cL, (1, .inr (.inl fo))))]) (va_A [(x0, .inr (1, [.ref r0, .ref r1, .ref r2, .ref r3, .int (nI rn)])), (o, .inl (cL, (1, .inr (.inl fo))))] sz)) 1 6 (va_A [(x0, .inr (1, [.ref r0, .ref r1, .ref r2, .ref r3, .int (nI rn)])), (o, .inl (cL, (1, .inr (.inl fo))))] sz) := by
  refine g_ofH (cc := cL_crosses) (maxL := 6) (ret := (some .int)) (by decide) rfl (Nat.le_of_ble_eq_true rfl) (fun p e s m below meth c ls hx hb hr hml hts hown hlocks htab hP hKl hl A hA hD hS hZ => ?_)
  have hK : va_K (dC, dI) vwCl [(cA, .int)] s := hKl.sub [0] rfl
  have hl : lv_has ls 6 [(0, .ref x0), (1, .int (nI 1)), (2, .int x), (3, .int y), (4, .ref o)] := hl
  refine lv_aload hx hb dL_crosses_0 (lv_at hl 4 rfl) ?_
  refine lv_iconst (v := 0) hx hb dL_crosses_2 (by decide) ?_
  refine lv_aload_n hx hb dL_crosses_3 rfl (lv_at hl 0 rfl) ?_
  refine lv_iload_n hx hb dL_crosses_4 rfl (lv_at hl 1 rfl) ?_
  refine lv_iload_n hx hb dL_crosses_5 rfl (lv_at hl 2 rfl) ?_
  refine lv_iload_n hx hb dL_crosses_6 rfl (lv_at hl 3 rfl) ?_
  refine g_HT (As := [.int (nI 1), .int x, .int y]) (rest := [.int 0, .ref o]) (E := gIA) ⟨hx, hb, hml, hown, hts⟩ (th_X1_crosses_2_1 l htr dC dI cA s.heap.size x0 r0 r1 r2 r3 rn x y h0 h1 h2 h3 h4) (cwV 3 hts gL_crosses_X1_crosses rfl rfl rfl hdX1_crosses ⟨Nat.le_of_ble_eq_true rfl, Nat.le_of_ble_eq_true rfl⟩) hP hK hD hS hA hZ [0] (by decide) rfl (va_recv hK hP (ci := 1) (q0 := 0) rfl rfl) rfl hl.1 rfl (Nat.le_of_ble_eq_true rfl) dL_crosses_7 (Nat.le_of_ble_eq_true rfl) (Nat.le_of_ble_eq_true rfl) (own := RL) hown [⟨0, 12, 15, 19⟩] ⟨0, 12, 19, 13⟩ [] (by rw [htab]; rfl) (fun z hz => by obtain rfl := List.mem_singleton.mp hz; exact ⟨by decide, gIO, (hts (.classLink RL 19 "java/lang/IndexOutOfBoundsException") (List.mem_of_getElem? (i := 1) rfl)), by decide +kernel⟩) (by decide) (by decide) (hts (.classLink RL 13 "java/lang/IllegalArgumentException") (List.mem_of_getElem? (i := 2) rfl)) (List.mem_of_getElem? (i := 0) rfl) (fun q9 H locs hP hS => ?_)
  refine lv_astore (lv' := [(5, .ref q9), (0, .ref x0), (1, .int (nI 1)), (2, .int x), (3, .int y), (4, .ref o)]) hx hb dL_crosses_19 hl (by decide) rfl (fun ls hl => ?_)
  refine lv_iconst (v := 2) hx hb dL_crosses_21 (by decide) ?_
  exact g_endMi hx hb hr hlocks hP hS dL_crosses_22 () rfl rfl trivial

abbrev mt_L_handle0_rm : Room := { frames := 5, cells := 0, slots := 0, locals := 113 }
set_option maxHeartbeats 4000000 in
set_option maxRecDepth 100000 in
theorem mt_L_handle0 (l : Launch) (htr : l.stackTraces = false) (dC : Nat → ClassId) (dI : Nat → Nat → Nat) (cA cL : ClassId) (sz : Nat) (x0 : Nat) (r0 : Nat) (r1 : Nat) (r2 : Nat) (r3 : Nat) (rn : Nat) (a0 : Nat) (L : List Int32) (f : Nat → Int32) (q : Nat) (o : Nat) (fo : Nat → Int64) (hR : RI L f) (hq : q < 3) : Met l yL_handle wsL_handle mt_L_handle0_rm (va_Pc [.ref x0, .int (nI 0), .int (nI q), .ref o] (gBT (dC, dI) [(cA, .int), (cL, .long)] [(x0, .inr (1, [.ref r0, .ref r1, .ref r2, .ref r3, .int (nI rn)])), (r0, .inr (0, [.ref a0, .int (nI L.length)])), (a0, .inl (cA, (100, .inl f))), (o, .inl (cL, (1, .inr (.inl fo))))] sz)) (gM (dC, dI) (some (.int 0)) (fun u : Unit => True) (fun u : Unit => [(x0, .inr (1, [.ref r0, .ref r1, .ref r2, .ref r3, .int (nI rn)])), (r0, .inr (0, [.ref a0, .int (nI L.length)])), (a0, .inl (cA, (100, .inl f))), (o, .inl (cL, (1, .inr (.inl (vp_updL fo 0 (haL L q).toInt64)))))]) (va_A [(x0, .inr (1, [.ref r0, .ref r1, .ref r2, .ref r3, .int (nI rn)])), (r0, .inr (0, [.ref a0, .int (nI L.length)])), (a0, .inl (cA, (100, .inl f))), (o, .inl (cL, (1, .inr (.inl fo))))] sz)) 0 0 (va_A [(x0, .inr (1, [.ref r0, .ref r1, .ref r2, .ref r3, .int (nI rn)])), (r0, .inr (0, [.ref a0, .int (nI L.length)])), (a0, .inl (cA, (100, .inl f))), (o, .inl (cL, (1, .inr (.inl fo))))] sz) := by
  refine g_ofH (cc := cL_handle) (maxL := 5) (ret := (some .int)) (by decide) rfl (Nat.le_of_ble_eq_true rfl) (fun p e s m below meth c ls hx hb hr hml hts hown hlocks htab hP hKl hl A hA hD hS hZ => ?_)
  have hK : va_K (dC, dI) vwCl [(cA, .int)] s := hKl.sub [0] rfl
  have hl : lv_has ls 5 [(0, .ref x0), (1, .int (nI 0)), (2, .int (nI q)), (3, .ref o)] := hl
  refine lv_aload_n hx hb dL_handle_0 rfl (lv_at hl 3 rfl) ?_
  refine lv_iconst (v := 0) hx hb dL_handle_1 (by decide) ?_
  refine lv_aload_n hx hb dL_handle_2 rfl (lv_at hl 0 rfl) ?_
  refine lv_iload_n hx hb dL_handle_3 rfl (lv_at hl 1 rfl) ?_
  refine lv_iload_n hx hb dL_handle_4 rfl (lv_at hl 2 rfl) ?_
  refine g_RVi (As := [.int (nI 0), .int (nI q)]) (rest := [.int 0, .ref o]) ⟨hx, hb, hml, hown, hts⟩ (mt_X1_handle0 l dC dI cA s.heap.size x0 r0 r1 r2 r3 rn a0 L f q hR hq) (cwV 2 hts gL_handle_X1_handle rfl rfl rfl hdX1_handle ⟨Nat.le_of_ble_eq_true rfl, Nat.le_of_ble_eq_true rfl⟩) hP hK hD [0, 1, 2] (by decide) rfl (va_recv hK hP (ci := 1) (q0 := 0) rfl rfl) rfl hl.1 rfl (Nat.le_of_ble_eq_true rfl) dL_handle_5 (Nat.zero_le _) (Nat.zero_le _) ?_
  refine lv_i2l (v := (haL L q).toInt64) hx hb dL_handle_8 rfl ?_
  refine va_last hx hb hKl hP hD hS 3 1 rfl rfl (vp_in_nI (n := 0) (by omega) (by decide)) dL_handle_9 (fun H locs hP hD hS => ?_)
  rw [show (0 : Int32).toNatClampNeg = 0 from by decide] at hP hD
  have hP : va_P (dC, dI) vwCl [(x0, .inr (1, [.ref r0, .ref r1, .ref r2, .ref r3, .int (nI rn)])), (r0, .inr (0, [.ref a0, .int (nI L.length)])), (a0, .inl (cA, (100, .inl f))), (o, .inl (cL, (1, .inr (.inl (vp_updL fo 0 ((haL L q).toInt64))))))] H := hP
  have hD : va_D A [(x0, .inr (1, [.ref r0, .ref r1, .ref r2, .ref r3, .int (nI rn)])), (r0, .inr (0, [.ref a0, .int (nI L.length)])), (a0, .inl (cA, (100, .inl f))), (o, .inl (cL, (1, .inr (.inl (vp_updL fo 0 ((haL L q).toInt64))))))] := hD
  refine lv_goto (tgt := 17) hx hb dL_handle_10 (by decide) ?_
  refine lv_iconst (v := 0) hx hb dL_handle_17 (by decide) ?_
  exact g_endMi hx hb hr hlocks hP hS dL_handle_18 () rfl rfl trivial

abbrev mt_L_handle1_rm : Room := { frames := 5, cells := 0, slots := 0, locals := 113 }
set_option maxHeartbeats 4000000 in
set_option maxRecDepth 100000 in
theorem mt_L_handle1 (l : Launch) (htr : l.stackTraces = false) (dC : Nat → ClassId) (dI : Nat → Nat → Nat) (cA cL : ClassId) (sz : Nat) (x0 : Nat) (r0 : Nat) (r1 : Nat) (r2 : Nat) (r3 : Nat) (rn : Nat) (a1 : Nat) (L : List Int32) (f : Nat → Int32) (q : Nat) (o : Nat) (fo : Nat → Int64) (hR : RI L f) (hq : q < 3) : Met l yL_handle wsL_handle mt_L_handle1_rm (va_Pc [.ref x0, .int (nI 1), .int (nI q), .ref o] (gBT (dC, dI) [(cA, .int), (cL, .long)] [(x0, .inr (1, [.ref r0, .ref r1, .ref r2, .ref r3, .int (nI rn)])), (r1, .inr (0, [.ref a1, .int (nI L.length)])), (a1, .inl (cA, (100, .inl f))), (o, .inl (cL, (1, .inr (.inl fo))))] sz)) (gM (dC, dI) (some (.int 0)) (fun u : Unit => True) (fun u : Unit => [(x0, .inr (1, [.ref r0, .ref r1, .ref r2, .ref r3, .int (nI rn)])), (r1, .inr (0, [.ref a1, .int (nI L.length)])), (a1, .inl (cA, (100, .inl f))), (o, .inl (cL, (1, .inr (.inl (vp_updL fo 0 (haL L q).toInt64)))))]) (va_A [(x0, .inr (1, [.ref r0, .ref r1, .ref r2, .ref r3, .int (nI rn)])), (r1, .inr (0, [.ref a1, .int (nI L.length)])), (a1, .inl (cA, (100, .inl f))), (o, .inl (cL, (1, .inr (.inl fo))))] sz)) 0 0 (va_A [(x0, .inr (1, [.ref r0, .ref r1, .ref r2, .ref r3, .int (nI rn)])), (r1, .inr (0, [.ref a1, .int (nI L.length)])), (a1, .inl (cA, (100, .inl f))), (o, .inl (cL, (1, .inr (.inl fo))))] sz) := by
  refine g_ofH (cc := cL_handle) (maxL := 5) (ret := (some .int)) (by decide) rfl (Nat.le_of_ble_eq_true rfl) (fun p e s m below meth c ls hx hb hr hml hts hown hlocks htab hP hKl hl A hA hD hS hZ => ?_)
  have hK : va_K (dC, dI) vwCl [(cA, .int)] s := hKl.sub [0] rfl
  have hl : lv_has ls 5 [(0, .ref x0), (1, .int (nI 1)), (2, .int (nI q)), (3, .ref o)] := hl
  refine lv_aload_n hx hb dL_handle_0 rfl (lv_at hl 3 rfl) ?_
  refine lv_iconst (v := 0) hx hb dL_handle_1 (by decide) ?_
  refine lv_aload_n hx hb dL_handle_2 rfl (lv_at hl 0 rfl) ?_
  refine lv_iload_n hx hb dL_handle_3 rfl (lv_at hl 1 rfl) ?_
  refine lv_iload_n hx hb dL_handle_4 rfl (lv_at hl 2 rfl) ?_
  refine g_RVi (As := [.int (nI 1), .int (nI q)]) (rest := [.int 0, .ref o]) ⟨hx, hb, hml, hown, hts⟩ (mt_X1_handle1 l dC dI cA s.heap.size x0 r0 r1 r2 r3 rn a1 L f q hR hq) (cwV 2 hts gL_handle_X1_handle rfl rfl rfl hdX1_handle ⟨Nat.le_of_ble_eq_true rfl, Nat.le_of_ble_eq_true rfl⟩) hP hK hD [0, 1, 2] (by decide) rfl (va_recv hK hP (ci := 1) (q0 := 0) rfl rfl) rfl hl.1 rfl (Nat.le_of_ble_eq_true rfl) dL_handle_5 (Nat.zero_le _) (Nat.zero_le _) ?_
  refine lv_i2l (v := (haL L q).toInt64) hx hb dL_handle_8 rfl ?_
  refine va_last hx hb hKl hP hD hS 3 1 rfl rfl (vp_in_nI (n := 0) (by omega) (by decide)) dL_handle_9 (fun H locs hP hD hS => ?_)
  rw [show (0 : Int32).toNatClampNeg = 0 from by decide] at hP hD
  have hP : va_P (dC, dI) vwCl [(x0, .inr (1, [.ref r0, .ref r1, .ref r2, .ref r3, .int (nI rn)])), (r1, .inr (0, [.ref a1, .int (nI L.length)])), (a1, .inl (cA, (100, .inl f))), (o, .inl (cL, (1, .inr (.inl (vp_updL fo 0 ((haL L q).toInt64))))))] H := hP
  have hD : va_D A [(x0, .inr (1, [.ref r0, .ref r1, .ref r2, .ref r3, .int (nI rn)])), (r1, .inr (0, [.ref a1, .int (nI L.length)])), (a1, .inl (cA, (100, .inl f))), (o, .inl (cL, (1, .inr (.inl (vp_updL fo 0 ((haL L q).toInt64))))))] := hD
  refine lv_goto (tgt := 17) hx hb dL_handle_10 (by decide) ?_
  refine lv_iconst (v := 0) hx hb dL_handle_17 (by decide) ?_
  exact g_endMi hx hb hr hlocks hP hS dL_handle_18 () rfl rfl trivial

abbrev mt_L_handle_1_rm : Room := { frames := 8, cells := 1, slots := 6, locals := 132 }
set_option maxHeartbeats 4000000 in
set_option maxRecDepth 100000 in
theorem mt_L_handle_1 (l : Launch) (htr : l.stackTraces = false) (dC : Nat → ClassId) (dI : Nat → Nat → Nat) (cA cL : ClassId) (sz : Nat) (x0 : Nat) (wd : Int32) (x : Int32) (r0 : Nat) (r1 : Nat) (r2 : Nat) (r3 : Nat) (R9 : Int32) (o : Nat) (fo : Nat → Int64) (hbad : wd < 0 ∨ 1 < wd) : Met l yL_handle wsL_handle mt_L_handle_1_rm (va_Pc [.ref x0, .int wd, .int x, .ref o] (gBT (dC, dI) [(cA, .int), (cL, .long)] [(x0, .inr (1, [.ref r0, .ref r1, .ref r2, .ref r3, .int R9])), (o, .inl (cL, (1, .inr (.inl fo))))] sz)) (gM (dC, dI) (some (.int 1)) (fun u : Unit => True) (fun u : Unit => [(x0, .inr (1, [.ref r0, .ref r1, .ref r2, .ref r3, .int R9])), (o, .inl (cL, (1, .inr (.inl fo))))]) (va_A [(x0, .inr (1, [.ref r0, .ref r1, .ref r2, .ref r3, .int R9])), (o, .inl (cL, (1, .inr (.inl fo))))] sz)) 1 6 (va_A [(x0, .inr (1, [.ref r0, .ref r1, .ref r2, .ref r3, .int R9])), (o, .inl (cL, (1, .inr (.inl fo))))] sz) := by
  refine g_ofH (cc := cL_handle) (maxL := 5) (ret := (some .int)) (by decide) rfl (Nat.le_of_ble_eq_true rfl) (fun p e s m below meth c ls hx hb hr hml hts hown hlocks htab hP hKl hl A hA hD hS hZ => ?_)
  have hK : va_K (dC, dI) vwCl [(cA, .int)] s := hKl.sub [0] rfl
  have hl : lv_has ls 5 [(0, .ref x0), (1, .int wd), (2, .int x), (3, .ref o)] := hl
  refine lv_aload_n hx hb dL_handle_0 rfl (lv_at hl 3 rfl) ?_
  refine lv_iconst (v := 0) hx hb dL_handle_1 (by decide) ?_
  refine lv_aload_n hx hb dL_handle_2 rfl (lv_at hl 0 rfl) ?_
  refine lv_iload_n hx hb dL_handle_3 rfl (lv_at hl 1 rfl) ?_
  refine lv_iload_n hx hb dL_handle_4 rfl (lv_at hl 2 rfl) ?_
  refine g_HT (As := [.int wd, .int x]) (rest := [.int 0, .ref o]) (E := gIO) ⟨hx, hb, hml, hown, hts⟩ (th_X1_handle_1 l htr dC dI cA s.heap.size x0 wd x hbad) (cwV 2 hts gL_handle_X1_handle rfl rfl rfl hdX1_handle ⟨Nat.le_of_ble_eq_true rfl, Nat.le_of_ble_eq_true rfl⟩) hP hK hD hS hA hZ [] (by decide) rfl (va_recv hK hP (ci := 1) (q0 := 0) rfl rfl) rfl hl.1 rfl (Nat.le_of_ble_eq_true rfl) dL_handle_5 (Nat.le_of_ble_eq_true rfl) (Nat.le_of_ble_eq_true rfl) (own := RL) hown [] ⟨0, 10, 13, 19⟩ [] (by rw [htab]; rfl) (fun z hz => absurd hz List.not_mem_nil) (by decide) (by decide) (hts (.classLink RL 19 "java/lang/IndexOutOfBoundsException") (List.mem_of_getElem? (i := 1) rfl)) (List.mem_of_getElem? (i := 1) rfl) (fun q9 H locs hP hS => ?_)
  refine lv_astore (lv' := [(4, .ref q9), (0, .ref x0), (1, .int wd), (2, .int x), (3, .ref o)]) hx hb dL_handle_13 hl (by decide) rfl (fun ls hl => ?_)
  refine lv_iconst (v := 1) hx hb dL_handle_15 (by decide) ?_
  exact g_endMi hx hb hr hlocks hP hS dL_handle_16 () rfl rfl trivial

abbrev mt_L_handle_1b_0_rm : Room := { frames := 8, cells := 1, slots := 6, locals := 133 }
set_option maxHeartbeats 4000000 in
set_option maxRecDepth 100000 in
theorem mt_L_handle_1b_0 (l : Launch) (htr : l.stackTraces = false) (dC : Nat → ClassId) (dI : Nat → Nat → Nat) (cA cL : ClassId) (sz : Nat) (x0 : Nat) (r0 : Nat) (r1 : Nat) (r2 : Nat) (r3 : Nat) (rn : Nat) (x : Int32) (o : Nat) (fo : Nat → Int64) (hbad : x < 0 ∨ 3 ≤ x) : Met l yL_handle wsL_handle mt_L_handle_1b_0_rm (va_Pc [.ref x0, .int (nI 0), .int x, .ref o] (gBT (dC, dI) [(cA, .int), (cL, .long)] [(x0, .inr (1, [.ref r0, .ref r1, .ref r2, .ref r3, .int (nI rn)])), (o, .inl (cL, (1, .inr (.inl fo))))] sz)) (gM (dC, dI) (some (.int 1)) (fun u : Unit => True) (fun u : Unit => [(x0, .inr (1, [.ref r0, .ref r1, .ref r2, .ref r3, .int (nI rn)])), (o, .inl (cL, (1, .inr (.inl fo))))]) (va_A [(x0, .inr (1, [.ref r0, .ref r1, .ref r2, .ref r3, .int (nI rn)])), (o, .inl (cL, (1, .inr (.inl fo))))] sz)) 1 6 (va_A [(x0, .inr (1, [.ref r0, .ref r1, .ref r2, .ref r3, .int (nI rn)])), (o, .inl (cL, (1, .inr (.inl fo))))] sz) := by
  refine g_ofH (cc := cL_handle) (maxL := 5) (ret := (some .int)) (by decide) rfl (Nat.le_of_ble_eq_true rfl) (fun p e s m below meth c ls hx hb hr hml hts hown hlocks htab hP hKl hl A hA hD hS hZ => ?_)
  have hK : va_K (dC, dI) vwCl [(cA, .int)] s := hKl.sub [0] rfl
  have hl : lv_has ls 5 [(0, .ref x0), (1, .int (nI 0)), (2, .int x), (3, .ref o)] := hl
  refine lv_aload_n hx hb dL_handle_0 rfl (lv_at hl 3 rfl) ?_
  refine lv_iconst (v := 0) hx hb dL_handle_1 (by decide) ?_
  refine lv_aload_n hx hb dL_handle_2 rfl (lv_at hl 0 rfl) ?_
  refine lv_iload_n hx hb dL_handle_3 rfl (lv_at hl 1 rfl) ?_
  refine lv_iload_n hx hb dL_handle_4 rfl (lv_at hl 2 rfl) ?_
  refine g_HT (As := [.int (nI 0), .int x]) (rest := [.int 0, .ref o]) (E := gIO) ⟨hx, hb, hml, hown, hts⟩ (th_X1_handle_1b_0 l htr dC dI cA s.heap.size x0 r0 r1 r2 r3 rn x hbad) (cwV 2 hts gL_handle_X1_handle rfl rfl rfl hdX1_handle ⟨Nat.le_of_ble_eq_true rfl, Nat.le_of_ble_eq_true rfl⟩) hP hK hD hS hA hZ [0] (by decide) rfl (va_recv hK hP (ci := 1) (q0 := 0) rfl rfl) rfl hl.1 rfl (Nat.le_of_ble_eq_true rfl) dL_handle_5 (Nat.le_of_ble_eq_true rfl) (Nat.le_of_ble_eq_true rfl) (own := RL) hown [] ⟨0, 10, 13, 19⟩ [] (by rw [htab]; rfl) (fun z hz => absurd hz List.not_mem_nil) (by decide) (by decide) (hts (.classLink RL 19 "java/lang/IndexOutOfBoundsException") (List.mem_of_getElem? (i := 1) rfl)) (List.mem_of_getElem? (i := 1) rfl) (fun q9 H locs hP hS => ?_)
  refine lv_astore (lv' := [(4, .ref q9), (0, .ref x0), (1, .int (nI 0)), (2, .int x), (3, .ref o)]) hx hb dL_handle_13 hl (by decide) rfl (fun ls hl => ?_)
  refine lv_iconst (v := 1) hx hb dL_handle_15 (by decide) ?_
  exact g_endMi hx hb hr hlocks hP hS dL_handle_16 () rfl rfl trivial

abbrev mt_L_handle_1b_1_rm : Room := { frames := 8, cells := 1, slots := 6, locals := 133 }
set_option maxHeartbeats 4000000 in
set_option maxRecDepth 100000 in
theorem mt_L_handle_1b_1 (l : Launch) (htr : l.stackTraces = false) (dC : Nat → ClassId) (dI : Nat → Nat → Nat) (cA cL : ClassId) (sz : Nat) (x0 : Nat) (r0 : Nat) (r1 : Nat) (r2 : Nat) (r3 : Nat) (rn : Nat) (x : Int32) (o : Nat) (fo : Nat → Int64) (hbad : x < 0 ∨ 3 ≤ x) : Met l yL_handle wsL_handle mt_L_handle_1b_1_rm (va_Pc [.ref x0, .int (nI 1), .int x, .ref o] (gBT (dC, dI) [(cA, .int), (cL, .long)] [(x0, .inr (1, [.ref r0, .ref r1, .ref r2, .ref r3, .int (nI rn)])), (o, .inl (cL, (1, .inr (.inl fo))))] sz)) (gM (dC, dI) (some (.int 1)) (fun u : Unit => True) (fun u : Unit => [(x0, .inr (1, [.ref r0, .ref r1, .ref r2, .ref r3, .int (nI rn)])), (o, .inl (cL, (1, .inr (.inl fo))))]) (va_A [(x0, .inr (1, [.ref r0, .ref r1, .ref r2, .ref r3, .int (nI rn)])), (o, .inl (cL, (1, .inr (.inl fo))))] sz)) 1 6 (va_A [(x0, .inr (1, [.ref r0, .ref r1, .ref r2, .ref r3, .int (nI rn)])), (o, .inl (cL, (1, .inr (.inl fo))))] sz) := by
  refine g_ofH (cc := cL_handle) (maxL := 5) (ret := (some .int)) (by decide) rfl (Nat.le_of_ble_eq_true rfl) (fun p e s m below meth c ls hx hb hr hml hts hown hlocks htab hP hKl hl A hA hD hS hZ => ?_)
  have hK : va_K (dC, dI) vwCl [(cA, .int)] s := hKl.sub [0] rfl
  have hl : lv_has ls 5 [(0, .ref x0), (1, .int (nI 1)), (2, .int x), (3, .ref o)] := hl
  refine lv_aload_n hx hb dL_handle_0 rfl (lv_at hl 3 rfl) ?_
  refine lv_iconst (v := 0) hx hb dL_handle_1 (by decide) ?_
  refine lv_aload_n hx hb dL_handle_2 rfl (lv_at hl 0 rfl) ?_
  refine lv_iload_n hx hb dL_handle_3 rfl (lv_at hl 1 rfl) ?_
  refine lv_iload_n hx hb dL_handle_4 rfl (lv_at hl 2 rfl) ?_
  refine g_HT (As := [.int (nI 1), .int x]) (rest := [.int 0, .ref o]) (E := gIO) ⟨hx, hb, hml, hown, hts⟩ (th_X1_handle_1b_1 l htr dC dI cA s.heap.size x0 r0 r1 r2 r3 rn x hbad) (cwV 2 hts gL_handle_X1_handle rfl rfl rfl hdX1_handle ⟨Nat.le_of_ble_eq_true rfl, Nat.le_of_ble_eq_true rfl⟩) hP hK hD hS hA hZ [0] (by decide) rfl (va_recv hK hP (ci := 1) (q0 := 0) rfl rfl) rfl hl.1 rfl (Nat.le_of_ble_eq_true rfl) dL_handle_5 (Nat.le_of_ble_eq_true rfl) (Nat.le_of_ble_eq_true rfl) (own := RL) hown [] ⟨0, 10, 13, 19⟩ [] (by rw [htab]; rfl) (fun z hz => absurd hz List.not_mem_nil) (by decide) (by decide) (hts (.classLink RL 19 "java/lang/IndexOutOfBoundsException") (List.mem_of_getElem? (i := 1) rfl)) (List.mem_of_getElem? (i := 1) rfl) (fun q9 H locs hP hS => ?_)
  refine lv_astore (lv' := [(4, .ref q9), (0, .ref x0), (1, .int (nI 1)), (2, .int x), (3, .ref o)]) hx hb dL_handle_13 hl (by decide) rfl (fun ls hl => ?_)
  refine lv_iconst (v := 1) hx hb dL_handle_15 (by decide) ?_
  exact g_endMi hx hb hr hlocks hP hS dL_handle_16 () rfl rfl trivial

abbrev mt_L_plain0_rm : Room := { frames := 5, cells := 0, slots := 0, locals := 117 }
set_option maxHeartbeats 4000000 in
set_option maxRecDepth 100000 in
theorem mt_L_plain0 (l : Launch) (htr : l.stackTraces = false) (dC : Nat → ClassId) (dI : Nat → Nat → Nat) (cA cL : ClassId) (sz : Nat) (x0 : Nat) (r0 : Nat) (r1 : Nat) (r2 : Nat) (r3 : Nat) (rn : Nat) (a0 : Nat) (L : List Int32) (f : Nat → Int32) (a2 : Nat) (n2 : Int32) (f2 : Nat → Int32) (a3 : Nat) (n3 : Int32) (f3 : Nat → Int32) (q : Nat) (o : Nat) (fo : Nat → Int64) (hR : RI L f) (hq : q < 4) : Met l yL_plain wsL_plain mt_L_plain0_rm (va_Pc [.ref x0, .int (nI 0), .int (nI q), .ref o] (gBT (dC, dI) [(cA, .int), (cL, .long)] [(x0, .inr (1, [.ref r0, .ref r1, .ref r2, .ref r3, .int (nI rn)])), (r0, .inr (0, [.ref a0, .int (nI L.length)])), (a0, .inl (cA, (100, .inl f))), (r2, .inr (0, [.ref a2, .int n2])), (a2, .inl (cA, (100, .inl f2))), (r3, .inr (0, [.ref a3, .int n3])), (a3, .inl (cA, (100, .inl f3))), (o, .inl (cL, (1, .inr (.inl fo))))] sz)) (gM (dC, dI) (some (.int 0)) (fun u : Int32 × (Nat → Int32) × Int32 × (Nat → Int32) => True) (fun u : Int32 × (Nat → Int32) × Int32 × (Nat → Int32) => [(x0, .inr (1, [.ref r0, .ref r1, .ref r2, .ref r3, .int (nI rn)])), (r0, .inr (0, [.ref a0, .int (nI L.length)])), (a0, .inl (cA, (100, .inl f))), (r2, .inr (0, [.ref a2, .int u.1])), (a2, .inl (cA, (100, .inl u.2.1))), (r3, .inr (0, [.ref a3, .int u.2.2.1])), (a3, .inl (cA, (100, .inl u.2.2.2))), (o, .inl (cL, (1, .inr (.inl (vp_updL fo 0 (paI (plain L) q).toInt64)))))]) (va_A [(x0, .inr (1, [.ref r0, .ref r1, .ref r2, .ref r3, .int (nI rn)])), (r0, .inr (0, [.ref a0, .int (nI L.length)])), (a0, .inl (cA, (100, .inl f))), (r2, .inr (0, [.ref a2, .int n2])), (a2, .inl (cA, (100, .inl f2))), (r3, .inr (0, [.ref a3, .int n3])), (a3, .inl (cA, (100, .inl f3))), (o, .inl (cL, (1, .inr (.inl fo))))] sz)) 0 0 (va_A [(x0, .inr (1, [.ref r0, .ref r1, .ref r2, .ref r3, .int (nI rn)])), (r0, .inr (0, [.ref a0, .int (nI L.length)])), (a0, .inl (cA, (100, .inl f))), (r2, .inr (0, [.ref a2, .int n2])), (a2, .inl (cA, (100, .inl f2))), (r3, .inr (0, [.ref a3, .int n3])), (a3, .inl (cA, (100, .inl f3))), (o, .inl (cL, (1, .inr (.inl fo))))] sz) := by
  refine g_ofH (cc := cL_plain) (maxL := 5) (ret := (some .int)) (by decide) rfl (Nat.le_of_ble_eq_true rfl) (fun p e s m below meth c ls hx hb hr hml hts hown hlocks htab hP hKl hl A hA hD hS hZ => ?_)
  have hK : va_K (dC, dI) vwCl [(cA, .int)] s := hKl.sub [0] rfl
  have hl : lv_has ls 5 [(0, .ref x0), (1, .int (nI 0)), (2, .int (nI q)), (3, .ref o)] := hl
  refine lv_aload_n hx hb dL_plain_0 rfl (lv_at hl 3 rfl) ?_
  refine lv_iconst (v := 0) hx hb dL_plain_1 (by decide) ?_
  refine lv_aload_n hx hb dL_plain_2 rfl (lv_at hl 0 rfl) ?_
  refine lv_iload_n hx hb dL_plain_3 rfl (lv_at hl 1 rfl) ?_
  refine lv_iload_n hx hb dL_plain_4 rfl (lv_at hl 2 rfl) ?_
  refine g_MVi (As := [.int (nI 0), .int (nI q)]) (rest := [.int 0, .ref o]) ⟨hx, hb, hml, hown, hts⟩ (mt_X1_plain0 l dC dI cA s.heap.size x0 r0 r1 r2 r3 rn a0 L f a2 n2 f2 a3 n3 f3 q hR hq) (cwV 2 hts gL_plain_X1_plain rfl rfl rfl hdX1_plain ⟨Nat.le_of_ble_eq_true rfl, Nat.le_of_ble_eq_true rfl⟩) hP hK hD hS hA [0, 1, 2, 3, 4, 5, 6] (by decide) rfl (va_recv hK hP (ci := 1) (q0 := 0) rfl rfl) rfl hl.1 rfl (Nat.le_of_ble_eq_true rfl) dL_plain_5 (Nat.zero_le _) (Nat.zero_le _) (fun u9 => [(x0, .inr (1, [.ref r0, .ref r1, .ref r2, .ref r3, .int (nI rn)])), (r0, .inr (0, [.ref a0, .int (nI L.length)])), (a0, .inl (cA, (100, .inl f))), (r2, .inr (0, [.ref a2, .int u9.1])), (a2, .inl (cA, (100, .inl u9.2.1))), (r3, .inr (0, [.ref a3, .int u9.2.2.1])), (a3, .inl (cA, (100, .inl u9.2.2.2))), (o, .inl (cL, (1, .inr (.inl fo))))]) (fun _ => rfl) (fun _ => rfl) (fun u H locs hw_5 hP hD hS => ?_)
  obtain ⟨m2_1, g2_2, m3_3, g3_4⟩ := u
  have hw_5 : True := hw_5
  have hP : va_P (dC, dI) vwCl [(x0, .inr (1, [.ref r0, .ref r1, .ref r2, .ref r3, .int (nI rn)])), (r0, .inr (0, [.ref a0, .int (nI L.length)])), (a0, .inl (cA, (100, .inl f))), (r2, .inr (0, [.ref a2, .int m2_1])), (a2, .inl (cA, (100, .inl g2_2))), (r3, .inr (0, [.ref a3, .int m3_3])), (a3, .inl (cA, (100, .inl g3_4))), (o, .inl (cL, (1, .inr (.inl fo))))] H := hP
  have hD : va_D A [(x0, .inr (1, [.ref r0, .ref r1, .ref r2, .ref r3, .int (nI rn)])), (r0, .inr (0, [.ref a0, .int (nI L.length)])), (a0, .inl (cA, (100, .inl f))), (r2, .inr (0, [.ref a2, .int m2_1])), (a2, .inl (cA, (100, .inl g2_2))), (r3, .inr (0, [.ref a3, .int m3_3])), (a3, .inl (cA, (100, .inl g3_4))), (o, .inl (cL, (1, .inr (.inl fo))))] := hD
  refine lv_i2l (v := (paI (plain L) q).toInt64) hx hb dL_plain_8 rfl ?_
  refine va_last hx hb hKl hP hD hS 7 1 rfl rfl (vp_in_nI (n := 0) (by omega) (by decide)) dL_plain_9 (fun H locs hP hD hS => ?_)
  rw [show (0 : Int32).toNatClampNeg = 0 from by decide] at hP hD
  have hP : va_P (dC, dI) vwCl [(x0, .inr (1, [.ref r0, .ref r1, .ref r2, .ref r3, .int (nI rn)])), (r0, .inr (0, [.ref a0, .int (nI L.length)])), (a0, .inl (cA, (100, .inl f))), (r2, .inr (0, [.ref a2, .int m2_1])), (a2, .inl (cA, (100, .inl g2_2))), (r3, .inr (0, [.ref a3, .int m3_3])), (a3, .inl (cA, (100, .inl g3_4))), (o, .inl (cL, (1, .inr (.inl (vp_updL fo 0 ((paI (plain L) q).toInt64))))))] H := hP
  have hD : va_D A [(x0, .inr (1, [.ref r0, .ref r1, .ref r2, .ref r3, .int (nI rn)])), (r0, .inr (0, [.ref a0, .int (nI L.length)])), (a0, .inl (cA, (100, .inl f))), (r2, .inr (0, [.ref a2, .int m2_1])), (a2, .inl (cA, (100, .inl g2_2))), (r3, .inr (0, [.ref a3, .int m3_3])), (a3, .inl (cA, (100, .inl g3_4))), (o, .inl (cL, (1, .inr (.inl (vp_updL fo 0 ((paI (plain L) q).toInt64))))))] := hD
  refine lv_goto (tgt := 17) hx hb dL_plain_10 (by decide) ?_
  refine lv_iconst (v := 0) hx hb dL_plain_17 (by decide) ?_
  exact g_endMi hx hb hr hlocks hP hS dL_plain_18 (m2_1, g2_2, m3_3, g3_4) rfl rfl hw_5

abbrev mt_L_plain1_rm : Room := { frames := 5, cells := 0, slots := 0, locals := 117 }
set_option maxHeartbeats 4000000 in
set_option maxRecDepth 100000 in
theorem mt_L_plain1 (l : Launch) (htr : l.stackTraces = false) (dC : Nat → ClassId) (dI : Nat → Nat → Nat) (cA cL : ClassId) (sz : Nat) (x0 : Nat) (r0 : Nat) (r1 : Nat) (r2 : Nat) (r3 : Nat) (rn : Nat) (a1 : Nat) (L : List Int32) (f : Nat → Int32) (a2 : Nat) (n2 : Int32) (f2 : Nat → Int32) (a3 : Nat) (n3 : Int32) (f3 : Nat → Int32) (q : Nat) (o : Nat) (fo : Nat → Int64) (hR : RI L f) (hq : q < 4) : Met l yL_plain wsL_plain mt_L_plain1_rm (va_Pc [.ref x0, .int (nI 1), .int (nI q), .ref o] (gBT (dC, dI) [(cA, .int), (cL, .long)] [(x0, .inr (1, [.ref r0, .ref r1, .ref r2, .ref r3, .int (nI rn)])), (r1, .inr (0, [.ref a1, .int (nI L.length)])), (a1, .inl (cA, (100, .inl f))), (r2, .inr (0, [.ref a2, .int n2])), (a2, .inl (cA, (100, .inl f2))), (r3, .inr (0, [.ref a3, .int n3])), (a3, .inl (cA, (100, .inl f3))), (o, .inl (cL, (1, .inr (.inl fo))))] sz)) (gM (dC, dI) (some (.int 0)) (fun u : Int32 × (Nat → Int32) × Int32 × (Nat → Int32) => True) (fun u : Int32 × (Nat → Int32) × Int32 × (Nat → Int32) => [(x0, .inr (1, [.ref r0, .ref r1, .ref r2, .ref r3, .int (nI rn)])), (r1, .inr (0, [.ref a1, .int (nI L.length)])), (a1, .inl (cA, (100, .inl f))), (r2, .inr (0, [.ref a2, .int u.1])), (a2, .inl (cA, (100, .inl u.2.1))), (r3, .inr (0, [.ref a3, .int u.2.2.1])), (a3, .inl (cA, (100, .inl u.2.2.2))), (o, .inl (cL, (1, .inr (.inl (vp_updL fo 0 (paI (plain L) q).toInt64)))))]) (va_A [(x0, .inr (1, [.ref r0, .ref r1, .ref r2, .ref r3, .int (nI rn)])), (r1, .inr (0, [.ref a1, .int (nI L.length)])), (a1, .inl (cA, (100, .inl f))), (r2, .inr (0, [.ref a2, .int n2])), (a2, .inl (cA, (100, .inl f2))), (r3, .inr (0, [.ref a3, .int n3])), (a3, .inl (cA, (100, .inl f3))), (o, .inl (cL, (1, .inr (.inl fo))))] sz)) 0 0 (va_A [(x0, .inr (1, [.ref r0, .ref r1, .ref r2, .ref r3, .int (nI rn)])), (r1, .inr (0, [.ref a1, .int (nI L.length)])), (a1, .inl (cA, (100, .inl f))), (r2, .inr (0, [.ref a2, .int n2])), (a2, .inl (cA, (100, .inl f2))), (r3, .inr (0, [.ref a3, .int n3])), (a3, .inl (cA, (100, .inl f3))), (o, .inl (cL, (1, .inr (.inl fo))))] sz) := by
  refine g_ofH (cc := cL_plain) (maxL := 5) (ret := (some .int)) (by decide) rfl (Nat.le_of_ble_eq_true rfl) (fun p e s m below meth c ls hx hb hr hml hts hown hlocks htab hP hKl hl A hA hD hS hZ => ?_)
  have hK : va_K (dC, dI) vwCl [(cA, .int)] s := hKl.sub [0] rfl
  have hl : lv_has ls 5 [(0, .ref x0), (1, .int (nI 1)), (2, .int (nI q)), (3, .ref o)] := hl
  refine lv_aload_n hx hb dL_plain_0 rfl (lv_at hl 3 rfl) ?_
  refine lv_iconst (v := 0) hx hb dL_plain_1 (by decide) ?_
  refine lv_aload_n hx hb dL_plain_2 rfl (lv_at hl 0 rfl) ?_
  refine lv_iload_n hx hb dL_plain_3 rfl (lv_at hl 1 rfl) ?_
  refine lv_iload_n hx hb dL_plain_4 rfl (lv_at hl 2 rfl) ?_
  refine g_MVi (As := [.int (nI 1), .int (nI q)]) (rest := [.int 0, .ref o]) ⟨hx, hb, hml, hown, hts⟩ (mt_X1_plain1 l dC dI cA s.heap.size x0 r0 r1 r2 r3 rn a1 L f a2 n2 f2 a3 n3 f3 q hR hq) (cwV 2 hts gL_plain_X1_plain rfl rfl rfl hdX1_plain ⟨Nat.le_of_ble_eq_true rfl, Nat.le_of_ble_eq_true rfl⟩) hP hK hD hS hA [0, 1, 2, 3, 4, 5, 6] (by decide) rfl (va_recv hK hP (ci := 1) (q0 := 0) rfl rfl) rfl hl.1 rfl (Nat.le_of_ble_eq_true rfl) dL_plain_5 (Nat.zero_le _) (Nat.zero_le _) (fun u9 => [(x0, .inr (1, [.ref r0, .ref r1, .ref r2, .ref r3, .int (nI rn)])), (r1, .inr (0, [.ref a1, .int (nI L.length)])), (a1, .inl (cA, (100, .inl f))), (r2, .inr (0, [.ref a2, .int u9.1])), (a2, .inl (cA, (100, .inl u9.2.1))), (r3, .inr (0, [.ref a3, .int u9.2.2.1])), (a3, .inl (cA, (100, .inl u9.2.2.2))), (o, .inl (cL, (1, .inr (.inl fo))))]) (fun _ => rfl) (fun _ => rfl) (fun u H locs hw_5 hP hD hS => ?_)
  obtain ⟨m2_1, g2_2, m3_3, g3_4⟩ := u
  have hw_5 : True := hw_5
  have hP : va_P (dC, dI) vwCl [(x0, .inr (1, [.ref r0, .ref r1, .ref r2, .ref r3, .int (nI rn)])), (r1, .inr (0, [.ref a1, .int (nI L.length)])), (a1, .inl (cA, (100, .inl f))), (r2, .inr (0, [.ref a2, .int m2_1])), (a2, .inl (cA, (100, .inl g2_2))), (r3, .inr (0, [.ref a3, .int m3_3])), (a3, .inl (cA, (100, .inl g3_4))), (o, .inl (cL, (1, .inr (.inl fo))))] H := hP
  have hD : va_D A [(x0, .inr (1, [.ref r0, .ref r1, .ref r2, .ref r3, .int (nI rn)])), (r1, .inr (0, [.ref a1, .int (nI L.length)])), (a1, .inl (cA, (100, .inl f))), (r2, .inr (0, [.ref a2, .int m2_1])), (a2, .inl (cA, (100, .inl g2_2))), (r3, .inr (0, [.ref a3, .int m3_3])), (a3, .inl (cA, (100, .inl g3_4))), (o, .inl (cL, (1, .inr (.inl fo))))] := hD
  refine lv_i2l (v := (paI (plain L) q).toInt64) hx hb dL_plain_8 rfl ?_
  refine va_last hx hb hKl hP hD hS 7 1 rfl rfl (vp_in_nI (n := 0) (by omega) (by decide)) dL_plain_9 (fun H locs hP hD hS => ?_)
  rw [show (0 : Int32).toNatClampNeg = 0 from by decide] at hP hD
  have hP : va_P (dC, dI) vwCl [(x0, .inr (1, [.ref r0, .ref r1, .ref r2, .ref r3, .int (nI rn)])), (r1, .inr (0, [.ref a1, .int (nI L.length)])), (a1, .inl (cA, (100, .inl f))), (r2, .inr (0, [.ref a2, .int m2_1])), (a2, .inl (cA, (100, .inl g2_2))), (r3, .inr (0, [.ref a3, .int m3_3])), (a3, .inl (cA, (100, .inl g3_4))), (o, .inl (cL, (1, .inr (.inl (vp_updL fo 0 ((paI (plain L) q).toInt64))))))] H := hP
  have hD : va_D A [(x0, .inr (1, [.ref r0, .ref r1, .ref r2, .ref r3, .int (nI rn)])), (r1, .inr (0, [.ref a1, .int (nI L.length)])), (a1, .inl (cA, (100, .inl f))), (r2, .inr (0, [.ref a2, .int m2_1])), (a2, .inl (cA, (100, .inl g2_2))), (r3, .inr (0, [.ref a3, .int m3_3])), (a3, .inl (cA, (100, .inl g3_4))), (o, .inl (cL, (1, .inr (.inl (vp_updL fo 0 ((paI (plain L) q).toInt64))))))] := hD
  refine lv_goto (tgt := 17) hx hb dL_plain_10 (by decide) ?_
  refine lv_iconst (v := 0) hx hb dL_plain_17 (by decide) ?_
  exact g_endMi hx hb hr hlocks hP hS dL_plain_18 (m2_1, g2_2, m3_3, g3_4) rfl rfl hw_5

abbrev mt_L_plain_1_rm : Room := { frames := 8, cells := 1, slots := 6, locals := 132 }
set_option maxHeartbeats 4000000 in
set_option maxRecDepth 100000 in
theorem mt_L_plain_1 (l : Launch) (htr : l.stackTraces = false) (dC : Nat → ClassId) (dI : Nat → Nat → Nat) (cA cL : ClassId) (sz : Nat) (x0 : Nat) (wd : Int32) (x : Int32) (r0 : Nat) (r1 : Nat) (r2 : Nat) (r3 : Nat) (R9 : Int32) (o : Nat) (fo : Nat → Int64) (hbad : wd < 0 ∨ 1 < wd) : Met l yL_plain wsL_plain mt_L_plain_1_rm (va_Pc [.ref x0, .int wd, .int x, .ref o] (gBT (dC, dI) [(cA, .int), (cL, .long)] [(x0, .inr (1, [.ref r0, .ref r1, .ref r2, .ref r3, .int R9])), (o, .inl (cL, (1, .inr (.inl fo))))] sz)) (gM (dC, dI) (some (.int 1)) (fun u : Unit => True) (fun u : Unit => [(x0, .inr (1, [.ref r0, .ref r1, .ref r2, .ref r3, .int R9])), (o, .inl (cL, (1, .inr (.inl fo))))]) (va_A [(x0, .inr (1, [.ref r0, .ref r1, .ref r2, .ref r3, .int R9])), (o, .inl (cL, (1, .inr (.inl fo))))] sz)) 1 6 (va_A [(x0, .inr (1, [.ref r0, .ref r1, .ref r2, .ref r3, .int R9])), (o, .inl (cL, (1, .inr (.inl fo))))] sz) := by
  refine g_ofH (cc := cL_plain) (maxL := 5) (ret := (some .int)) (by decide) rfl (Nat.le_of_ble_eq_true rfl) (fun p e s m below meth c ls hx hb hr hml hts hown hlocks htab hP hKl hl A hA hD hS hZ => ?_)
  have hK : va_K (dC, dI) vwCl [(cA, .int)] s := hKl.sub [0] rfl
  have hl : lv_has ls 5 [(0, .ref x0), (1, .int wd), (2, .int x), (3, .ref o)] := hl
  refine lv_aload_n hx hb dL_plain_0 rfl (lv_at hl 3 rfl) ?_
  refine lv_iconst (v := 0) hx hb dL_plain_1 (by decide) ?_
  refine lv_aload_n hx hb dL_plain_2 rfl (lv_at hl 0 rfl) ?_
  refine lv_iload_n hx hb dL_plain_3 rfl (lv_at hl 1 rfl) ?_
  refine lv_iload_n hx hb dL_plain_4 rfl (lv_at hl 2 rfl) ?_
  refine g_HT (As := [.int wd, .int x]) (rest := [.int 0, .ref o]) (E := gIO) ⟨hx, hb, hml, hown, hts⟩ (th_X1_plain_1 l htr dC dI cA s.heap.size x0 wd x hbad) (cwV 2 hts gL_plain_X1_plain rfl rfl rfl hdX1_plain ⟨Nat.le_of_ble_eq_true rfl, Nat.le_of_ble_eq_true rfl⟩) hP hK hD hS hA hZ [] (by decide) rfl (va_recv hK hP (ci := 1) (q0 := 0) rfl rfl) rfl hl.1 rfl (Nat.le_of_ble_eq_true rfl) dL_plain_5 (Nat.le_of_ble_eq_true rfl) (Nat.le_of_ble_eq_true rfl) (own := RL) hown [] ⟨0, 10, 13, 19⟩ [] (by rw [htab]; rfl) (fun z hz => absurd hz List.not_mem_nil) (by decide) (by decide) (hts (.classLink RL 19 "java/lang/IndexOutOfBoundsException") (List.mem_of_getElem? (i := 1) rfl)) (List.mem_of_getElem? (i := 1) rfl) (fun q9 H locs hP hS => ?_)
  refine lv_astore (lv' := [(4, .ref q9), (0, .ref x0), (1, .int wd), (2, .int x), (3, .ref o)]) hx hb dL_plain_13 hl (by decide) rfl (fun ls hl => ?_)
  refine lv_iconst (v := 1) hx hb dL_plain_15 (by decide) ?_
  exact g_endMi hx hb hr hlocks hP hS dL_plain_16 () rfl rfl trivial

abbrev mt_L_plain_1b_0_rm : Room := { frames := 8, cells := 1, slots := 6, locals := 133 }
set_option maxHeartbeats 4000000 in
set_option maxRecDepth 100000 in
theorem mt_L_plain_1b_0 (l : Launch) (htr : l.stackTraces = false) (dC : Nat → ClassId) (dI : Nat → Nat → Nat) (cA cL : ClassId) (sz : Nat) (x0 : Nat) (r0 : Nat) (r1 : Nat) (r2 : Nat) (r3 : Nat) (rn : Nat) (x : Int32) (o : Nat) (fo : Nat → Int64) (hbad : x < 0 ∨ 4 ≤ x) : Met l yL_plain wsL_plain mt_L_plain_1b_0_rm (va_Pc [.ref x0, .int (nI 0), .int x, .ref o] (gBT (dC, dI) [(cA, .int), (cL, .long)] [(x0, .inr (1, [.ref r0, .ref r1, .ref r2, .ref r3, .int (nI rn)])), (o, .inl (cL, (1, .inr (.inl fo))))] sz)) (gM (dC, dI) (some (.int 1)) (fun u : Unit => True) (fun u : Unit => [(x0, .inr (1, [.ref r0, .ref r1, .ref r2, .ref r3, .int (nI rn)])), (o, .inl (cL, (1, .inr (.inl fo))))]) (va_A [(x0, .inr (1, [.ref r0, .ref r1, .ref r2, .ref r3, .int (nI rn)])), (o, .inl (cL, (1, .inr (.inl fo))))] sz)) 1 6 (va_A [(x0, .inr (1, [.ref r0, .ref r1, .ref r2, .ref r3, .int (nI rn)])), (o, .inl (cL, (1, .inr (.inl fo))))] sz) := by
  refine g_ofH (cc := cL_plain) (maxL := 5) (ret := (some .int)) (by decide) rfl (Nat.le_of_ble_eq_true rfl) (fun p e s m below meth c ls hx hb hr hml hts hown hlocks htab hP hKl hl A hA hD hS hZ => ?_)
  have hK : va_K (dC, dI) vwCl [(cA, .int)] s := hKl.sub [0] rfl
  have hl : lv_has ls 5 [(0, .ref x0), (1, .int (nI 0)), (2, .int x), (3, .ref o)] := hl
  refine lv_aload_n hx hb dL_plain_0 rfl (lv_at hl 3 rfl) ?_
  refine lv_iconst (v := 0) hx hb dL_plain_1 (by decide) ?_
  refine lv_aload_n hx hb dL_plain_2 rfl (lv_at hl 0 rfl) ?_
  refine lv_iload_n hx hb dL_plain_3 rfl (lv_at hl 1 rfl) ?_
  refine lv_iload_n hx hb dL_plain_4 rfl (lv_at hl 2 rfl) ?_
  refine g_HT (As := [.int (nI 0), .int x]) (rest := [.int 0, .ref o]) (E := gIO) ⟨hx, hb, hml, hown, hts⟩ (th_X1_plain_1b_0 l htr dC dI cA s.heap.size x0 r0 r1 r2 r3 rn x hbad) (cwV 2 hts gL_plain_X1_plain rfl rfl rfl hdX1_plain ⟨Nat.le_of_ble_eq_true rfl, Nat.le_of_ble_eq_true rfl⟩) hP hK hD hS hA hZ [0] (by decide) rfl (va_recv hK hP (ci := 1) (q0 := 0) rfl rfl) rfl hl.1 rfl (Nat.le_of_ble_eq_true rfl) dL_plain_5 (Nat.le_of_ble_eq_true rfl) (Nat.le_of_ble_eq_true rfl) (own := RL) hown [] ⟨0, 10, 13, 19⟩ [] (by rw [htab]; rfl) (fun z hz => absurd hz List.not_mem_nil) (by decide) (by decide) (hts (.classLink RL 19 "java/lang/IndexOutOfBoundsException") (List.mem_of_getElem? (i := 1) rfl)) (List.mem_of_getElem? (i := 1) rfl) (fun q9 H locs hP hS => ?_)
  refine lv_astore (lv' := [(4, .ref q9), (0, .ref x0), (1, .int (nI 0)), (2, .int x), (3, .ref o)]) hx hb dL_plain_13 hl (by decide) rfl (fun ls hl => ?_)
  refine lv_iconst (v := 1) hx hb dL_plain_15 (by decide) ?_
  exact g_endMi hx hb hr hlocks hP hS dL_plain_16 () rfl rfl trivial

abbrev mt_L_plain_1b_1_rm : Room := { frames := 8, cells := 1, slots := 6, locals := 133 }
set_option maxHeartbeats 4000000 in
set_option maxRecDepth 100000 in
theorem mt_L_plain_1b_1 (l : Launch) (htr : l.stackTraces = false) (dC : Nat → ClassId) (dI : Nat → Nat → Nat) (cA cL : ClassId) (sz : Nat) (x0 : Nat) (r0 : Nat) (r1 : Nat) (r2 : Nat) (r3 : Nat) (rn : Nat) (x : Int32) (o : Nat) (fo : Nat → Int64) (hbad : x < 0 ∨ 4 ≤ x) : Met l yL_plain wsL_plain mt_L_plain_1b_1_rm (va_Pc [.ref x0, .int (nI 1), .int x, .ref o] (gBT (dC, dI) [(cA, .int), (cL, .long)] [(x0, .inr (1, [.ref r0, .ref r1, .ref r2, .ref r3, .int (nI rn)])), (o, .inl (cL, (1, .inr (.inl fo))))] sz)) (gM (dC, dI) (some (.int 1)) (fun u : Unit => True) (fun u : Unit => [(x0, .inr (1, [.ref r0, .ref r1, .ref r2, .ref r3, .int (nI rn)])), (o, .inl (cL, (1, .inr (.inl fo))))]) (va_A [(x0, .inr (1, [.ref r0, .ref r1, .ref r2, .ref r3, .int (nI rn)])), (o, .inl (cL, (1, .inr (.inl fo))))] sz)) 1 6 (va_A [(x0, .inr (1, [.ref r0, .ref r1, .ref r2, .ref r3, .int (nI rn)])), (o, .inl (cL, (1, .inr (.inl fo))))] sz) := by
  refine g_ofH (cc := cL_plain) (maxL := 5) (ret := (some .int)) (by decide) rfl (Nat.le_of_ble_eq_true rfl) (fun p e s m below meth c ls hx hb hr hml hts hown hlocks htab hP hKl hl A hA hD hS hZ => ?_)
  have hK : va_K (dC, dI) vwCl [(cA, .int)] s := hKl.sub [0] rfl
  have hl : lv_has ls 5 [(0, .ref x0), (1, .int (nI 1)), (2, .int x), (3, .ref o)] := hl
  refine lv_aload_n hx hb dL_plain_0 rfl (lv_at hl 3 rfl) ?_
  refine lv_iconst (v := 0) hx hb dL_plain_1 (by decide) ?_
  refine lv_aload_n hx hb dL_plain_2 rfl (lv_at hl 0 rfl) ?_
  refine lv_iload_n hx hb dL_plain_3 rfl (lv_at hl 1 rfl) ?_
  refine lv_iload_n hx hb dL_plain_4 rfl (lv_at hl 2 rfl) ?_
  refine g_HT (As := [.int (nI 1), .int x]) (rest := [.int 0, .ref o]) (E := gIO) ⟨hx, hb, hml, hown, hts⟩ (th_X1_plain_1b_1 l htr dC dI cA s.heap.size x0 r0 r1 r2 r3 rn x hbad) (cwV 2 hts gL_plain_X1_plain rfl rfl rfl hdX1_plain ⟨Nat.le_of_ble_eq_true rfl, Nat.le_of_ble_eq_true rfl⟩) hP hK hD hS hA hZ [0] (by decide) rfl (va_recv hK hP (ci := 1) (q0 := 0) rfl rfl) rfl hl.1 rfl (Nat.le_of_ble_eq_true rfl) dL_plain_5 (Nat.le_of_ble_eq_true rfl) (Nat.le_of_ble_eq_true rfl) (own := RL) hown [] ⟨0, 10, 13, 19⟩ [] (by rw [htab]; rfl) (fun z hz => absurd hz List.not_mem_nil) (by decide) (by decide) (hts (.classLink RL 19 "java/lang/IndexOutOfBoundsException") (List.mem_of_getElem? (i := 1) rfl)) (List.mem_of_getElem? (i := 1) rfl) (fun q9 H locs hP hS => ?_)
  refine lv_astore (lv' := [(4, .ref q9), (0, .ref x0), (1, .int (nI 1)), (2, .int x), (3, .ref o)]) hx hb dL_plain_13 hl (by decide) rfl (fun ls hl => ?_)
  refine lv_iconst (v := 1) hx hb dL_plain_15 (by decide) ?_
  exact g_endMi hx hb hr hlocks hP hS dL_plain_16 () rfl rfl trivial

abbrev mt_L_advise0_rm : Room := { frames := 7, cells := 0, slots := 0, locals := 166 }
set_option maxHeartbeats 4000000 in
set_option maxRecDepth 100000 in
theorem mt_L_advise0 (l : Launch) (htr : l.stackTraces = false) (dC : Nat → ClassId) (dI : Nat → Nat → Nat) (cA cL : ClassId) (sz : Nat) (x0 : Nat) (r0 : Nat) (r1 : Nat) (r2 : Nat) (r3 : Nat) (rn : Nat) (a0 : Nat) (L : List Int32) (f : Nat → Int32) (a2 : Nat) (n2 : Int32) (f2 : Nat → Int32) (a3 : Nat) (n3 : Int32) (f3 : Nat → Int32) (zz : Nat × List Int32) (o : Nat) (fo : Nat → Int64) (hR : RI L f) (hpl : plain L = some zz) (hk : L.length ≤ 30) (hrn : 1 ≤ rn) (hrn2 : rn ≤ 6) : Met l yL_advise wsL_advise mt_L_advise0_rm (va_Pc [.ref x0, .int (nI 0), .ref o] (gBT (dC, dI) [(cA, .int), (cL, .long)] [(x0, .inr (1, [.ref r0, .ref r1, .ref r2, .ref r3, .int (nI rn)])), (r0, .inr (0, [.ref a0, .int (nI L.length)])), (a0, .inl (cA, (100, .inl f))), (r2, .inr (0, [.ref a2, .int n2])), (a2, .inl (cA, (100, .inl f2))), (r3, .inr (0, [.ref a3, .int n3])), (a3, .inl (cA, (100, .inl f3))), (o, .inl (cL, (1, .inr (.inl fo))))] sz)) (gM (dC, dI) (some (.int 0)) (fun u : Int32 × (Nat → Int32) × Int32 × (Nat → Int32) => True) (fun u : Int32 × (Nat → Int32) × Int32 × (Nat → Int32) => [(x0, .inr (1, [.ref r0, .ref r1, .ref r2, .ref r3, .int (nI rn)])), (r0, .inr (0, [.ref a0, .int (nI L.length)])), (a0, .inl (cA, (100, .inl f))), (r2, .inr (0, [.ref a2, .int u.1])), (a2, .inl (cA, (100, .inl u.2.1))), (r3, .inr (0, [.ref a3, .int u.2.2.1])), (a3, .inl (cA, (100, .inl u.2.2.2))), (o, .inl (cL, (1, .inr (.inl (vp_updL fo 0 ((adH L (nI zz.2.length) (rn - 1)).1).toInt64)))))]) (va_A [(x0, .inr (1, [.ref r0, .ref r1, .ref r2, .ref r3, .int (nI rn)])), (r0, .inr (0, [.ref a0, .int (nI L.length)])), (a0, .inl (cA, (100, .inl f))), (r2, .inr (0, [.ref a2, .int n2])), (a2, .inl (cA, (100, .inl f2))), (r3, .inr (0, [.ref a3, .int n3])), (a3, .inl (cA, (100, .inl f3))), (o, .inl (cL, (1, .inr (.inl fo))))] sz)) 0 0 (va_A [(x0, .inr (1, [.ref r0, .ref r1, .ref r2, .ref r3, .int (nI rn)])), (r0, .inr (0, [.ref a0, .int (nI L.length)])), (a0, .inl (cA, (100, .inl f))), (r2, .inr (0, [.ref a2, .int n2])), (a2, .inl (cA, (100, .inl f2))), (r3, .inr (0, [.ref a3, .int n3])), (a3, .inl (cA, (100, .inl f3))), (o, .inl (cL, (1, .inr (.inl fo))))] sz) := by
  refine g_ofH (cc := cL_advise) (maxL := 4) (ret := (some .int)) (by decide) rfl (Nat.le_of_ble_eq_true rfl) (fun p e s m below meth c ls hx hb hr hml hts hown hlocks htab hP hKl hl A hA hD hS hZ => ?_)
  have hK : va_K (dC, dI) vwCl [(cA, .int)] s := hKl.sub [0] rfl
  have hl : lv_has ls 4 [(0, .ref x0), (1, .int (nI 0)), (2, .ref o)] := hl
  refine lv_aload_n hx hb dL_advise_0 rfl (lv_at hl 2 rfl) ?_
  refine lv_iconst (v := 0) hx hb dL_advise_1 (by decide) ?_
  refine lv_aload_n hx hb dL_advise_2 rfl (lv_at hl 0 rfl) ?_
  refine lv_iload_n hx hb dL_advise_3 rfl (lv_at hl 1 rfl) ?_
  refine g_MVi (As := [.int (nI 0)]) (rest := [.int 0, .ref o]) ⟨hx, hb, hml, hown, hts⟩ (mt_X1_advise0 l dC dI cA s.heap.size x0 r0 r1 r2 r3 rn a0 L f a2 n2 f2 a3 n3 f3 zz hR hpl hk hrn hrn2) (cwV 1 hts gL_advise_X1_advise rfl rfl rfl hdX1_advise ⟨Nat.le_of_ble_eq_true rfl, Nat.le_of_ble_eq_true rfl⟩) hP hK hD hS hA [0, 1, 2, 3, 4, 5, 6] (by decide) rfl (va_recv hK hP (ci := 1) (q0 := 0) rfl rfl) rfl hl.1 rfl (Nat.le_of_ble_eq_true rfl) dL_advise_4 (Nat.zero_le _) (Nat.zero_le _) (fun u9 => [(x0, .inr (1, [.ref r0, .ref r1, .ref r2, .ref r3, .int (nI rn)])), (r0, .inr (0, [.ref a0, .int (nI L.length)])), (a0, .inl (cA, (100, .inl f))), (r2, .inr (0, [.ref a2, .int u9.1])), (a2, .inl (cA, (100, .inl u9.2.1))), (r3, .inr (0, [.ref a3, .int u9.2.2.1])), (a3, .inl (cA, (100, .inl u9.2.2.2))), (o, .inl (cL, (1, .inr (.inl fo))))]) (fun _ => rfl) (fun _ => rfl) (fun u H locs hw_5 hP hD hS => ?_)
  obtain ⟨m2_1, g2_2, m3_3, g3_4⟩ := u
  have hw_5 : True := hw_5
  have hP : va_P (dC, dI) vwCl [(x0, .inr (1, [.ref r0, .ref r1, .ref r2, .ref r3, .int (nI rn)])), (r0, .inr (0, [.ref a0, .int (nI L.length)])), (a0, .inl (cA, (100, .inl f))), (r2, .inr (0, [.ref a2, .int m2_1])), (a2, .inl (cA, (100, .inl g2_2))), (r3, .inr (0, [.ref a3, .int m3_3])), (a3, .inl (cA, (100, .inl g3_4))), (o, .inl (cL, (1, .inr (.inl fo))))] H := hP
  have hD : va_D A [(x0, .inr (1, [.ref r0, .ref r1, .ref r2, .ref r3, .int (nI rn)])), (r0, .inr (0, [.ref a0, .int (nI L.length)])), (a0, .inl (cA, (100, .inl f))), (r2, .inr (0, [.ref a2, .int m2_1])), (a2, .inl (cA, (100, .inl g2_2))), (r3, .inr (0, [.ref a3, .int m3_3])), (a3, .inl (cA, (100, .inl g3_4))), (o, .inl (cL, (1, .inr (.inl fo))))] := hD
  refine lv_i2l (v := ((adH L (nI zz.2.length) (rn - 1)).1).toInt64) hx hb dL_advise_7 rfl ?_
  refine va_last hx hb hKl hP hD hS 7 1 rfl rfl (vp_in_nI (n := 0) (by omega) (by decide)) dL_advise_8 (fun H locs hP hD hS => ?_)
  rw [show (0 : Int32).toNatClampNeg = 0 from by decide] at hP hD
  have hP : va_P (dC, dI) vwCl [(x0, .inr (1, [.ref r0, .ref r1, .ref r2, .ref r3, .int (nI rn)])), (r0, .inr (0, [.ref a0, .int (nI L.length)])), (a0, .inl (cA, (100, .inl f))), (r2, .inr (0, [.ref a2, .int m2_1])), (a2, .inl (cA, (100, .inl g2_2))), (r3, .inr (0, [.ref a3, .int m3_3])), (a3, .inl (cA, (100, .inl g3_4))), (o, .inl (cL, (1, .inr (.inl (vp_updL fo 0 (((adH L (nI zz.2.length) (rn - 1)).1).toInt64))))))] H := hP
  have hD : va_D A [(x0, .inr (1, [.ref r0, .ref r1, .ref r2, .ref r3, .int (nI rn)])), (r0, .inr (0, [.ref a0, .int (nI L.length)])), (a0, .inl (cA, (100, .inl f))), (r2, .inr (0, [.ref a2, .int m2_1])), (a2, .inl (cA, (100, .inl g2_2))), (r3, .inr (0, [.ref a3, .int m3_3])), (a3, .inl (cA, (100, .inl g3_4))), (o, .inl (cL, (1, .inr (.inl (vp_updL fo 0 (((adH L (nI zz.2.length) (rn - 1)).1).toInt64))))))] := hD
  refine lv_goto (tgt := 18) hx hb dL_advise_9 (by decide) ?_
  refine lv_iconst (v := 0) hx hb dL_advise_18 (by decide) ?_
  exact g_endMi hx hb hr hlocks hP hS dL_advise_19 (m2_1, g2_2, m3_3, g3_4) rfl rfl hw_5

abbrev mt_L_advise1_rm : Room := { frames := 7, cells := 0, slots := 0, locals := 166 }
set_option maxHeartbeats 4000000 in
set_option maxRecDepth 100000 in
theorem mt_L_advise1 (l : Launch) (htr : l.stackTraces = false) (dC : Nat → ClassId) (dI : Nat → Nat → Nat) (cA cL : ClassId) (sz : Nat) (x0 : Nat) (r0 : Nat) (r1 : Nat) (r2 : Nat) (r3 : Nat) (rn : Nat) (a1 : Nat) (L : List Int32) (f : Nat → Int32) (a2 : Nat) (n2 : Int32) (f2 : Nat → Int32) (a3 : Nat) (n3 : Int32) (f3 : Nat → Int32) (zz : Nat × List Int32) (o : Nat) (fo : Nat → Int64) (hR : RI L f) (hpl : plain L = some zz) (hk : L.length ≤ 30) (hrn : 1 ≤ rn) (hrn2 : rn ≤ 6) : Met l yL_advise wsL_advise mt_L_advise1_rm (va_Pc [.ref x0, .int (nI 1), .ref o] (gBT (dC, dI) [(cA, .int), (cL, .long)] [(x0, .inr (1, [.ref r0, .ref r1, .ref r2, .ref r3, .int (nI rn)])), (r1, .inr (0, [.ref a1, .int (nI L.length)])), (a1, .inl (cA, (100, .inl f))), (r2, .inr (0, [.ref a2, .int n2])), (a2, .inl (cA, (100, .inl f2))), (r3, .inr (0, [.ref a3, .int n3])), (a3, .inl (cA, (100, .inl f3))), (o, .inl (cL, (1, .inr (.inl fo))))] sz)) (gM (dC, dI) (some (.int 0)) (fun u : Int32 × (Nat → Int32) × Int32 × (Nat → Int32) => True) (fun u : Int32 × (Nat → Int32) × Int32 × (Nat → Int32) => [(x0, .inr (1, [.ref r0, .ref r1, .ref r2, .ref r3, .int (nI rn)])), (r1, .inr (0, [.ref a1, .int (nI L.length)])), (a1, .inl (cA, (100, .inl f))), (r2, .inr (0, [.ref a2, .int u.1])), (a2, .inl (cA, (100, .inl u.2.1))), (r3, .inr (0, [.ref a3, .int u.2.2.1])), (a3, .inl (cA, (100, .inl u.2.2.2))), (o, .inl (cL, (1, .inr (.inl (vp_updL fo 0 ((adH L (nI zz.2.length) (rn - 1)).1).toInt64)))))]) (va_A [(x0, .inr (1, [.ref r0, .ref r1, .ref r2, .ref r3, .int (nI rn)])), (r1, .inr (0, [.ref a1, .int (nI L.length)])), (a1, .inl (cA, (100, .inl f))), (r2, .inr (0, [.ref a2, .int n2])), (a2, .inl (cA, (100, .inl f2))), (r3, .inr (0, [.ref a3, .int n3])), (a3, .inl (cA, (100, .inl f3))), (o, .inl (cL, (1, .inr (.inl fo))))] sz)) 0 0 (va_A [(x0, .inr (1, [.ref r0, .ref r1, .ref r2, .ref r3, .int (nI rn)])), (r1, .inr (0, [.ref a1, .int (nI L.length)])), (a1, .inl (cA, (100, .inl f))), (r2, .inr (0, [.ref a2, .int n2])), (a2, .inl (cA, (100, .inl f2))), (r3, .inr (0, [.ref a3, .int n3])), (a3, .inl (cA, (100, .inl f3))), (o, .inl (cL, (1, .inr (.inl fo))))] sz) := by
  refine g_ofH (cc := cL_advise) (maxL := 4) (ret := (some .int)) (by decide) rfl (Nat.le_of_ble_eq_true rfl) (fun p e s m below meth c ls hx hb hr hml hts hown hlocks htab hP hKl hl A hA hD hS hZ => ?_)
  have hK : va_K (dC, dI) vwCl [(cA, .int)] s := hKl.sub [0] rfl
  have hl : lv_has ls 4 [(0, .ref x0), (1, .int (nI 1)), (2, .ref o)] := hl
  refine lv_aload_n hx hb dL_advise_0 rfl (lv_at hl 2 rfl) ?_
  refine lv_iconst (v := 0) hx hb dL_advise_1 (by decide) ?_
  refine lv_aload_n hx hb dL_advise_2 rfl (lv_at hl 0 rfl) ?_
  refine lv_iload_n hx hb dL_advise_3 rfl (lv_at hl 1 rfl) ?_
  refine g_MVi (As := [.int (nI 1)]) (rest := [.int 0, .ref o]) ⟨hx, hb, hml, hown, hts⟩ (mt_X1_advise1 l dC dI cA s.heap.size x0 r0 r1 r2 r3 rn a1 L f a2 n2 f2 a3 n3 f3 zz hR hpl hk hrn hrn2) (cwV 1 hts gL_advise_X1_advise rfl rfl rfl hdX1_advise ⟨Nat.le_of_ble_eq_true rfl, Nat.le_of_ble_eq_true rfl⟩) hP hK hD hS hA [0, 1, 2, 3, 4, 5, 6] (by decide) rfl (va_recv hK hP (ci := 1) (q0 := 0) rfl rfl) rfl hl.1 rfl (Nat.le_of_ble_eq_true rfl) dL_advise_4 (Nat.zero_le _) (Nat.zero_le _) (fun u9 => [(x0, .inr (1, [.ref r0, .ref r1, .ref r2, .ref r3, .int (nI rn)])), (r1, .inr (0, [.ref a1, .int (nI L.length)])), (a1, .inl (cA, (100, .inl f))), (r2, .inr (0, [.ref a2, .int u9.1])), (a2, .inl (cA, (100, .inl u9.2.1))), (r3, .inr (0, [.ref a3, .int u9.2.2.1])), (a3, .inl (cA, (100, .inl u9.2.2.2))), (o, .inl (cL, (1, .inr (.inl fo))))]) (fun _ => rfl) (fun _ => rfl) (fun u H locs hw_5 hP hD hS => ?_)
  obtain ⟨m2_1, g2_2, m3_3, g3_4⟩ := u
  have hw_5 : True := hw_5
  have hP : va_P (dC, dI) vwCl [(x0, .inr (1, [.ref r0, .ref r1, .ref r2, .ref r3, .int (nI rn)])), (r1, .inr (0, [.ref a1, .int (nI L.length)])), (a1, .inl (cA, (100, .inl f))), (r2, .inr (0, [.ref a2, .int m2_1])), (a2, .inl (cA, (100, .inl g2_2))), (r3, .inr (0, [.ref a3, .int m3_3])), (a3, .inl (cA, (100, .inl g3_4))), (o, .inl (cL, (1, .inr (.inl fo))))] H := hP
  have hD : va_D A [(x0, .inr (1, [.ref r0, .ref r1, .ref r2, .ref r3, .int (nI rn)])), (r1, .inr (0, [.ref a1, .int (nI L.length)])), (a1, .inl (cA, (100, .inl f))), (r2, .inr (0, [.ref a2, .int m2_1])), (a2, .inl (cA, (100, .inl g2_2))), (r3, .inr (0, [.ref a3, .int m3_3])), (a3, .inl (cA, (100, .inl g3_4))), (o, .inl (cL, (1, .inr (.inl fo))))] := hD
  refine lv_i2l (v := ((adH L (nI zz.2.length) (rn - 1)).1).toInt64) hx hb dL_advise_7 rfl ?_
  refine va_last hx hb hKl hP hD hS 7 1 rfl rfl (vp_in_nI (n := 0) (by omega) (by decide)) dL_advise_8 (fun H locs hP hD hS => ?_)
  rw [show (0 : Int32).toNatClampNeg = 0 from by decide] at hP hD
  have hP : va_P (dC, dI) vwCl [(x0, .inr (1, [.ref r0, .ref r1, .ref r2, .ref r3, .int (nI rn)])), (r1, .inr (0, [.ref a1, .int (nI L.length)])), (a1, .inl (cA, (100, .inl f))), (r2, .inr (0, [.ref a2, .int m2_1])), (a2, .inl (cA, (100, .inl g2_2))), (r3, .inr (0, [.ref a3, .int m3_3])), (a3, .inl (cA, (100, .inl g3_4))), (o, .inl (cL, (1, .inr (.inl (vp_updL fo 0 (((adH L (nI zz.2.length) (rn - 1)).1).toInt64))))))] H := hP
  have hD : va_D A [(x0, .inr (1, [.ref r0, .ref r1, .ref r2, .ref r3, .int (nI rn)])), (r1, .inr (0, [.ref a1, .int (nI L.length)])), (a1, .inl (cA, (100, .inl f))), (r2, .inr (0, [.ref a2, .int m2_1])), (a2, .inl (cA, (100, .inl g2_2))), (r3, .inr (0, [.ref a3, .int m3_3])), (a3, .inl (cA, (100, .inl g3_4))), (o, .inl (cL, (1, .inr (.inl (vp_updL fo 0 (((adH L (nI zz.2.length) (rn - 1)).1).toInt64))))))] := hD
  refine lv_goto (tgt := 18) hx hb dL_advise_9 (by decide) ?_
  refine lv_iconst (v := 0) hx hb dL_advise_18 (by decide) ?_
  exact g_endMi hx hb hr hlocks hP hS dL_advise_19 (m2_1, g2_2, m3_3, g3_4) rfl rfl hw_5

abbrev mt_L_advise_1_rm : Room := { frames := 8, cells := 1, slots := 6, locals := 132 }
set_option maxHeartbeats 4000000 in
set_option maxRecDepth 100000 in
theorem mt_L_advise_1 (l : Launch) (htr : l.stackTraces = false) (dC : Nat → ClassId) (dI : Nat → Nat → Nat) (cA cL : ClassId) (sz : Nat) (x0 : Nat) (wd : Int32) (r0 : Nat) (r1 : Nat) (r2 : Nat) (r3 : Nat) (R9 : Int32) (o : Nat) (fo : Nat → Int64) (hbad : wd < 0 ∨ 1 < wd) : Met l yL_advise wsL_advise mt_L_advise_1_rm (va_Pc [.ref x0, .int wd, .ref o] (gBT (dC, dI) [(cA, .int), (cL, .long)] [(x0, .inr (1, [.ref r0, .ref r1, .ref r2, .ref r3, .int R9])), (o, .inl (cL, (1, .inr (.inl fo))))] sz)) (gM (dC, dI) (some (.int 1)) (fun u : Unit => True) (fun u : Unit => [(x0, .inr (1, [.ref r0, .ref r1, .ref r2, .ref r3, .int R9])), (o, .inl (cL, (1, .inr (.inl fo))))]) (va_A [(x0, .inr (1, [.ref r0, .ref r1, .ref r2, .ref r3, .int R9])), (o, .inl (cL, (1, .inr (.inl fo))))] sz)) 1 6 (va_A [(x0, .inr (1, [.ref r0, .ref r1, .ref r2, .ref r3, .int R9])), (o, .inl (cL, (1, .inr (.inl fo))))] sz) := by
  refine g_ofH (cc := cL_advise) (maxL := 4) (ret := (some .int)) (by decide) rfl (Nat.le_of_ble_eq_true rfl) (fun p e s m below meth c ls hx hb hr hml hts hown hlocks htab hP hKl hl A hA hD hS hZ => ?_)
  have hK : va_K (dC, dI) vwCl [(cA, .int)] s := hKl.sub [0] rfl
  have hl : lv_has ls 4 [(0, .ref x0), (1, .int wd), (2, .ref o)] := hl
  refine lv_aload_n hx hb dL_advise_0 rfl (lv_at hl 2 rfl) ?_
  refine lv_iconst (v := 0) hx hb dL_advise_1 (by decide) ?_
  refine lv_aload_n hx hb dL_advise_2 rfl (lv_at hl 0 rfl) ?_
  refine lv_iload_n hx hb dL_advise_3 rfl (lv_at hl 1 rfl) ?_
  refine g_HT (As := [.int wd]) (rest := [.int 0, .ref o]) (E := gIO) ⟨hx, hb, hml, hown, hts⟩ (th_X1_advise_1 l htr dC dI cA s.heap.size x0 wd hbad) (cwV 1 hts gL_advise_X1_advise rfl rfl rfl hdX1_advise ⟨Nat.le_of_ble_eq_true rfl, Nat.le_of_ble_eq_true rfl⟩) hP hK hD hS hA hZ [] (by decide) rfl (va_recv hK hP (ci := 1) (q0 := 0) rfl rfl) rfl hl.1 rfl (Nat.le_of_ble_eq_true rfl) dL_advise_4 (Nat.le_of_ble_eq_true rfl) (Nat.le_of_ble_eq_true rfl) (own := RL) hown [] ⟨0, 9, 12, 19⟩ [⟨0, 9, 15, 21⟩] (by rw [htab]; rfl) (fun z hz => absurd hz List.not_mem_nil) (by decide) (by decide) (hts (.classLink RL 19 "java/lang/IndexOutOfBoundsException") (List.mem_of_getElem? (i := 1) rfl)) (List.mem_of_getElem? (i := 1) rfl) (fun q9 H locs hP hS => ?_)
  refine lv_astore_n (lv' := [(3, .ref q9), (0, .ref x0), (1, .int wd), (2, .ref o)]) hx hb dL_advise_12 rfl hl (by decide) rfl (fun ls hl => ?_)
  refine lv_iconst (v := 1) hx hb dL_advise_13 (by decide) ?_
  exact g_endMi hx hb hr hlocks hP hS dL_advise_14 () rfl rfl trivial

abbrev mt_L_advise_2_0_rm : Room := { frames := 7, cells := 1, slots := 6, locals := 117 }
set_option maxHeartbeats 4000000 in
set_option maxRecDepth 100000 in
theorem mt_L_advise_2_0 (l : Launch) (htr : l.stackTraces = false) (dC : Nat → ClassId) (dI : Nat → Nat → Nat) (cA cL : ClassId) (sz : Nat) (x0 : Nat) (r0 : Nat) (r1 : Nat) (r2 : Nat) (r3 : Nat) (rn : Nat) (a0 : Nat) (L : List Int32) (f : Nat → Int32) (a2 : Nat) (n2 : Int32) (f2 : Nat → Int32) (a3 : Nat) (n3 : Int32) (f3 : Nat → Int32) (o : Nat) (fo : Nat → Int64) (hR : RI L f) (hpl : plain L = none) : Met l yL_advise wsL_advise mt_L_advise_2_0_rm (va_Pc [.ref x0, .int (nI 0), .ref o] (gBT (dC, dI) [(cA, .int), (cL, .long)] [(x0, .inr (1, [.ref r0, .ref r1, .ref r2, .ref r3, .int (nI rn)])), (r0, .inr (0, [.ref a0, .int (nI L.length)])), (a0, .inl (cA, (100, .inl f))), (r2, .inr (0, [.ref a2, .int n2])), (a2, .inl (cA, (100, .inl f2))), (r3, .inr (0, [.ref a3, .int n3])), (a3, .inl (cA, (100, .inl f3))), (o, .inl (cL, (1, .inr (.inl fo))))] sz)) (gM (dC, dI) (some (.int 2)) (fun u : Int32 × (Nat → Int32) × Int32 × (Nat → Int32) => True) (fun u : Int32 × (Nat → Int32) × Int32 × (Nat → Int32) => [(x0, .inr (1, [.ref r0, .ref r1, .ref r2, .ref r3, .int (nI rn)])), (r0, .inr (0, [.ref a0, .int (nI L.length)])), (a0, .inl (cA, (100, .inl f))), (r2, .inr (0, [.ref a2, .int u.1])), (a2, .inl (cA, (100, .inl u.2.1))), (r3, .inr (0, [.ref a3, .int u.2.2.1])), (a3, .inl (cA, (100, .inl u.2.2.2))), (o, .inl (cL, (1, .inr (.inl fo))))]) (va_A [(x0, .inr (1, [.ref r0, .ref r1, .ref r2, .ref r3, .int (nI rn)])), (r0, .inr (0, [.ref a0, .int (nI L.length)])), (a0, .inl (cA, (100, .inl f))), (r2, .inr (0, [.ref a2, .int n2])), (a2, .inl (cA, (100, .inl f2))), (r3, .inr (0, [.ref a3, .int n3])), (a3, .inl (cA, (100, .inl f3))), (o, .inl (cL, (1, .inr (.inl fo))))] sz)) 1 6 (va_A [(x0, .inr (1, [.ref r0, .ref r1, .ref r2, .ref r3, .int (nI rn)])), (r0, .inr (0, [.ref a0, .int (nI L.length)])), (a0, .inl (cA, (100, .inl f))), (r2, .inr (0, [.ref a2, .int n2])), (a2, .inl (cA, (100, .inl f2))), (r3, .inr (0, [.ref a3, .int n3])), (a3, .inl (cA, (100, .inl f3))), (o, .inl (cL, (1, .inr (.inl fo))))] sz) := by
  refine g_ofH (cc := cL_advise) (maxL := 4) (ret := (some .int)) (by decide) rfl (Nat.le_of_ble_eq_true rfl) (fun p e s m below meth c ls hx hb hr hml hts hown hlocks htab hP hKl hl A hA hD hS hZ => ?_)
  have hK : va_K (dC, dI) vwCl [(cA, .int)] s := hKl.sub [0] rfl
  have hl : lv_has ls 4 [(0, .ref x0), (1, .int (nI 0)), (2, .ref o)] := hl
  refine lv_aload_n hx hb dL_advise_0 rfl (lv_at hl 2 rfl) ?_
  refine lv_iconst (v := 0) hx hb dL_advise_1 (by decide) ?_
  refine lv_aload_n hx hb dL_advise_2 rfl (lv_at hl 0 rfl) ?_
  refine lv_iload_n hx hb dL_advise_3 rfl (lv_at hl 1 rfl) ?_
  refine g_HX (As := [.int (nI 0)]) (rest := [.int 0, .ref o]) (E := gIS) ⟨hx, hb, hml, hown, hts⟩ (th_X1_advise_2_0 l htr dC dI cA s.heap.size x0 r0 r1 r2 r3 rn a0 L f a2 n2 f2 a3 n3 f3 hR hpl) (cwV 1 hts gL_advise_X1_advise rfl rfl rfl hdX1_advise ⟨Nat.le_of_ble_eq_true rfl, Nat.le_of_ble_eq_true rfl⟩) hP hK hD hS hA hZ [0, 1, 2, 3, 4, 5, 6] (by decide) rfl (va_recv hK hP (ci := 1) (q0 := 0) rfl rfl) rfl hl.1 rfl (Nat.le_of_ble_eq_true rfl) dL_advise_4 (Nat.le_of_ble_eq_true rfl) (Nat.le_of_ble_eq_true rfl) (fun u9 => [(x0, .inr (1, [.ref r0, .ref r1, .ref r2, .ref r3, .int (nI rn)])), (r0, .inr (0, [.ref a0, .int (nI L.length)])), (a0, .inl (cA, (100, .inl f))), (r2, .inr (0, [.ref a2, .int u9.1])), (a2, .inl (cA, (100, .inl u9.2.1))), (r3, .inr (0, [.ref a3, .int u9.2.2.1])), (a3, .inl (cA, (100, .inl u9.2.2.2))), (o, .inl (cL, (1, .inr (.inl fo))))]) (fun _ => rfl) (fun _ => rfl) (own := RL) hown [⟨0, 9, 12, 19⟩] ⟨0, 9, 15, 21⟩ [] (by rw [htab]; rfl) (fun z hz => by obtain rfl := List.mem_singleton.mp hz; exact ⟨by decide, gIO, (hts (.classLink RL 19 "java/lang/IndexOutOfBoundsException") (List.mem_of_getElem? (i := 1) rfl)), by decide +kernel⟩) (by decide) (by decide) (hts (.classLink RL 21 "java/lang/IllegalStateException") (List.mem_of_getElem? (i := 2) rfl)) (List.mem_of_getElem? (i := 2) rfl) (fun u q9 H locs _ hP hD hS => ?_)
  obtain ⟨m2_1, g2_2, m3_3, g3_4⟩ := u
  have hP : va_P (dC, dI) vwCl [(x0, .inr (1, [.ref r0, .ref r1, .ref r2, .ref r3, .int (nI rn)])), (r0, .inr (0, [.ref a0, .int (nI L.length)])), (a0, .inl (cA, (100, .inl f))), (r2, .inr (0, [.ref a2, .int m2_1])), (a2, .inl (cA, (100, .inl g2_2))), (r3, .inr (0, [.ref a3, .int m3_3])), (a3, .inl (cA, (100, .inl g3_4))), (o, .inl (cL, (1, .inr (.inl fo))))] H := hP
  have hD : va_D A [(x0, .inr (1, [.ref r0, .ref r1, .ref r2, .ref r3, .int (nI rn)])), (r0, .inr (0, [.ref a0, .int (nI L.length)])), (a0, .inl (cA, (100, .inl f))), (r2, .inr (0, [.ref a2, .int m2_1])), (a2, .inl (cA, (100, .inl g2_2))), (r3, .inr (0, [.ref a3, .int m3_3])), (a3, .inl (cA, (100, .inl g3_4))), (o, .inl (cL, (1, .inr (.inl fo))))] := hD
  refine lv_astore_n (lv' := [(3, .ref q9), (0, .ref x0), (1, .int (nI 0)), (2, .ref o)]) hx hb dL_advise_15 rfl hl (by decide) rfl (fun ls hl => ?_)
  refine lv_iconst (v := 2) hx hb dL_advise_16 (by decide) ?_
  exact g_endMi hx hb hr hlocks hP hS dL_advise_17 (m2_1, g2_2, m3_3, g3_4) rfl rfl trivial

abbrev mt_L_advise_2_1_rm : Room := { frames := 7, cells := 1, slots := 6, locals := 117 }
set_option maxHeartbeats 4000000 in
set_option maxRecDepth 100000 in
theorem mt_L_advise_2_1 (l : Launch) (htr : l.stackTraces = false) (dC : Nat → ClassId) (dI : Nat → Nat → Nat) (cA cL : ClassId) (sz : Nat) (x0 : Nat) (r0 : Nat) (r1 : Nat) (r2 : Nat) (r3 : Nat) (rn : Nat) (a1 : Nat) (L : List Int32) (f : Nat → Int32) (a2 : Nat) (n2 : Int32) (f2 : Nat → Int32) (a3 : Nat) (n3 : Int32) (f3 : Nat → Int32) (o : Nat) (fo : Nat → Int64) (hR : RI L f) (hpl : plain L = none) : Met l yL_advise wsL_advise mt_L_advise_2_1_rm (va_Pc [.ref x0, .int (nI 1), .ref o] (gBT (dC, dI) [(cA, .int), (cL, .long)] [(x0, .inr (1, [.ref r0, .ref r1, .ref r2, .ref r3, .int (nI rn)])), (r1, .inr (0, [.ref a1, .int (nI L.length)])), (a1, .inl (cA, (100, .inl f))), (r2, .inr (0, [.ref a2, .int n2])), (a2, .inl (cA, (100, .inl f2))), (r3, .inr (0, [.ref a3, .int n3])), (a3, .inl (cA, (100, .inl f3))), (o, .inl (cL, (1, .inr (.inl fo))))] sz)) (gM (dC, dI) (some (.int 2)) (fun u : Int32 × (Nat → Int32) × Int32 × (Nat → Int32) => True) (fun u : Int32 × (Nat → Int32) × Int32 × (Nat → Int32) => [(x0, .inr (1, [.ref r0, .ref r1, .ref r2, .ref r3, .int (nI rn)])), (r1, .inr (0, [.ref a1, .int (nI L.length)])), (a1, .inl (cA, (100, .inl f))), (r2, .inr (0, [.ref a2, .int u.1])), (a2, .inl (cA, (100, .inl u.2.1))), (r3, .inr (0, [.ref a3, .int u.2.2.1])), (a3, .inl (cA, (100, .inl u.2.2.2))), (o, .inl (cL, (1, .inr (.inl fo))))]) (va_A [(x0, .inr (1, [.ref r0, .ref r1, .ref r2, .ref r3, .int (nI rn)])), (r1, .inr (0, [.ref a1, .int (nI L.length)])), (a1, .inl (cA, (100, .inl f))), (r2, .inr (0, [.ref a2, .int n2])), (a2, .inl (cA, (100, .inl f2))), (r3, .inr (0, [.ref a3, .int n3])), (a3, .inl (cA, (100, .inl f3))), (o, .inl (cL, (1, .inr (.inl fo))))] sz)) 1 6 (va_A [(x0, .inr (1, [.ref r0, .ref r1, .ref r2, .ref r3, .int (nI rn)])), (r1, .inr (0, [.ref a1, .int (nI L.length)])), (a1, .inl (cA, (100, .inl f))), (r2, .inr (0, [.ref a2, .int n2])), (a2, .inl (cA, (100, .inl f2))), (r3, .inr (0, [.ref a3, .int n3])), (a3, .inl (cA, (100, .inl f3))), (o, .inl (cL, (1, .inr (.inl fo))))] sz) := by
  refine g_ofH (cc := cL_advise) (maxL := 4) (ret := (some .int)) (by decide) rfl (Nat.le_of_ble_eq_true rfl) (fun p e s m below meth c ls hx hb hr hml hts hown hlocks htab hP hKl hl A hA hD hS hZ => ?_)
  have hK : va_K (dC, dI) vwCl [(cA, .int)] s := hKl.sub [0] rfl
  have hl : lv_has ls 4 [(0, .ref x0), (1, .int (nI 1)), (2, .ref o)] := hl
  refine lv_aload_n hx hb dL_advise_0 rfl (lv_at hl 2 rfl) ?_
  refine lv_iconst (v := 0) hx hb dL_advise_1 (by decide) ?_
  refine lv_aload_n hx hb dL_advise_2 rfl (lv_at hl 0 rfl) ?_
  refine lv_iload_n hx hb dL_advise_3 rfl (lv_at hl 1 rfl) ?_
  refine g_HX (As := [.int (nI 1)]) (rest := [.int 0, .ref o]) (E := gIS) ⟨hx, hb, hml, hown, hts⟩ (th_X1_advise_2_1 l htr dC dI cA s.heap.size x0 r0 r1 r2 r3 rn a1 L f a2 n2 f2 a3 n3 f3 hR hpl) (cwV 1 hts gL_advise_X1_advise rfl rfl rfl hdX1_advise ⟨Nat.le_of_ble_eq_true rfl, Nat.le_of_ble_eq_true rfl⟩) hP hK hD hS hA hZ [0, 1, 2, 3, 4, 5, 6] (by decide) rfl (va_recv hK hP (ci := 1) (q0 := 0) rfl rfl) rfl hl.1 rfl (Nat.le_of_ble_eq_true rfl) dL_advise_4 (Nat.le_of_ble_eq_true rfl) (Nat.le_of_ble_eq_true rfl) (fun u9 => [(x0, .inr (1, [.ref r0, .ref r1, .ref r2, .ref r3, .int (nI rn)])), (r1, .inr (0, [.ref a1, .int (nI L.length)])), (a1, .inl (cA, (100, .inl f))), (r2, .inr (0, [.ref a2, .int u9.1])), (a2, .inl (cA, (100, .inl u9.2.1))), (r3, .inr (0, [.ref a3, .int u9.2.2.1])), (a3, .inl (cA, (100, .inl u9.2.2.2))), (o, .inl (cL, (1, .inr (.inl fo))))]) (fun _ => rfl) (fun _ => rfl) (own := RL) hown [⟨0, 9, 12, 19⟩] ⟨0, 9, 15, 21⟩ [] (by rw [htab]; rfl) (fun z hz => by obtain rfl := List.mem_singleton.mp hz; exact ⟨by decide, gIO, (hts (.classLink RL 19 "java/lang/IndexOutOfBoundsException") (List.mem_of_getElem? (i := 1) rfl)), by decide +kernel⟩) (by decide) (by decide) (hts (.classLink RL 21 "java/lang/IllegalStateException") (List.mem_of_getElem? (i := 2) rfl)) (List.mem_of_getElem? (i := 2) rfl) (fun u q9 H locs _ hP hD hS => ?_)
  obtain ⟨m2_1, g2_2, m3_3, g3_4⟩ := u
  have hP : va_P (dC, dI) vwCl [(x0, .inr (1, [.ref r0, .ref r1, .ref r2, .ref r3, .int (nI rn)])), (r1, .inr (0, [.ref a1, .int (nI L.length)])), (a1, .inl (cA, (100, .inl f))), (r2, .inr (0, [.ref a2, .int m2_1])), (a2, .inl (cA, (100, .inl g2_2))), (r3, .inr (0, [.ref a3, .int m3_3])), (a3, .inl (cA, (100, .inl g3_4))), (o, .inl (cL, (1, .inr (.inl fo))))] H := hP
  have hD : va_D A [(x0, .inr (1, [.ref r0, .ref r1, .ref r2, .ref r3, .int (nI rn)])), (r1, .inr (0, [.ref a1, .int (nI L.length)])), (a1, .inl (cA, (100, .inl f))), (r2, .inr (0, [.ref a2, .int m2_1])), (a2, .inl (cA, (100, .inl g2_2))), (r3, .inr (0, [.ref a3, .int m3_3])), (a3, .inl (cA, (100, .inl g3_4))), (o, .inl (cL, (1, .inr (.inl fo))))] := hD
  refine lv_astore_n (lv' := [(3, .ref q9), (0, .ref x0), (1, .int (nI 1)), (2, .ref o)]) hx hb dL_advise_15 rfl hl (by decide) rfl (fun ls hl => ?_)
  refine lv_iconst (v := 2) hx hb dL_advise_16 (by decide) ?_
  exact g_endMi hx hb hr hlocks hP hS dL_advise_17 (m2_1, g2_2, m3_3, g3_4) rfl rfl trivial
