theorem hdX1_firstOfHandle : yX1_firstOfHandle.cls ≠ "java/lang/invoke/MethodHandle" ∧ yX1_firstOfHandle.cls ≠ "java/lang/invoke/VarHandle" ∧ (parseMethodDescriptor yX1_firstOfHandle.desc).map (fun d => d.parameters.length) = some 2 := by decide +kernel
theorem hdX1_heightOf : yX1_heightOf.cls ≠ "java/lang/invoke/MethodHandle" ∧ yX1_heightOf.cls ≠ "java/lang/invoke/VarHandle" ∧ (parseMethodDescriptor yX1_heightOf.desc).map (fun d => d.parameters.length) = some 1 := by decide +kernel
theorem hdX1_lastOfFirstHandle : yX1_lastOfFirstHandle.cls ≠ "java/lang/invoke/MethodHandle" ∧ yX1_lastOfFirstHandle.cls ≠ "java/lang/invoke/VarHandle" ∧ (parseMethodDescriptor yX1_lastOfFirstHandle.desc).map (fun d => d.parameters.length) = some 2 := by decide +kernel
theorem hdX1_moreByCutting : yX1_moreByCutting.cls ≠ "java/lang/invoke/MethodHandle" ∧ yX1_moreByCutting.cls ≠ "java/lang/invoke/VarHandle" ∧ (parseMethodDescriptor yX1_moreByCutting.desc).map (fun d => d.parameters.length) = some 3 := by decide +kernel
theorem hdX1_placeBehind : yX1_placeBehind.cls ≠ "java/lang/invoke/MethodHandle" ∧ yX1_placeBehind.cls ≠ "java/lang/invoke/VarHandle" ∧ (parseMethodDescriptor yX1_placeBehind.desc).map (fun d => d.parameters.length) = some 2 := by decide +kernel
theorem hdX1_signOf : yX1_signOf.cls ≠ "java/lang/invoke/MethodHandle" ∧ yX1_signOf.cls ≠ "java/lang/invoke/VarHandle" ∧ (parseMethodDescriptor yX1_signOf.desc).map (fun d => d.parameters.length) = some 1 := by decide +kernel
abbrev mt_X1_heightOf_rm : Room := { frames := 0, cells := 0, slots := 0, locals := 0 }
set_option maxHeartbeats 4000000 in
set_option maxRecDepth 100000 in
/-- heightOf -/
theorem mt_X1_heightOf (l : Launch) (dC : Nat → ClassId) (dI : Nat → Nat → Nat) (cA : ClassId) (sz : Nat) (v : Int32) : Met l yX1_heightOf wsX1_heightOf mt_X1_heightOf_rm (va_Pc [.int v] (gB (dC, dI) [(cA, .int)] [] sz)) (gR (some (.int (abI v)))) 0 0 (fun _ => False) := by
  refine g_ofR (cc := cX1_heightOf) (maxL := 1) (ret := (some .int)) (by decide) rfl (Nat.le_of_ble_eq_true rfl) (fun p e s m below meth c ls hx hb hr hml hts hown hlocks hP hK hl hD => ?_)
  have hS : va_S (fun _ => True) s.heap s.heap [] := va_S.rf
  have hl : lv_has ls 1 [(0, .int v)] := hl
  refine lv_iload_n hx hb dX1_heightOf_0 rfl (lv_at hl 0 rfl) ?_
  refine lv_if_ge (tgt := 9) hx hb dX1_heightOf_1 (by decide) (fun c1 => ?_) (fun c1 => ?_)
  · refine lv_iload_n hx hb dX1_heightOf_9 rfl (lv_at hl 0 rfl) ?_
    exact g_endRi hx hb hr hlocks dX1_heightOf_10 (by first | exact abI_nonneg c1 | exact abI_neg c1)
  · refine lv_iload_n hx hb dX1_heightOf_4 rfl (lv_at hl 0 rfl) ?_
    refine lv_ineg hx hb dX1_heightOf_5 ?_
    refine lv_goto (tgt := 10) hx hb dX1_heightOf_6 (by decide) ?_
    exact g_endRi hx hb hr hlocks dX1_heightOf_10 (by first | exact abI_nonneg c1 | exact abI_neg c1)

abbrev mt_X1_signOf_rm : Room := { frames := 0, cells := 0, slots := 0, locals := 0 }
set_option maxHeartbeats 4000000 in
set_option maxRecDepth 100000 in
/-- signOf -/
theorem mt_X1_signOf (l : Launch) (dC : Nat → ClassId) (dI : Nat → Nat → Nat) (cA : ClassId) (sz : Nat) (v : Int32) : Met l yX1_signOf wsX1_signOf mt_X1_signOf_rm (va_Pc [.int v] (gB (dC, dI) [(cA, .int)] [] sz)) (gR (some (.int (sgI v)))) 0 0 (fun _ => False) := by
  refine g_ofR (cc := cX1_signOf) (maxL := 1) (ret := (some .int)) (by decide) rfl (Nat.le_of_ble_eq_true rfl) (fun p e s m below meth c ls hx hb hr hml hts hown hlocks hP hK hl hD => ?_)
  have hS : va_S (fun _ => True) s.heap s.heap [] := va_S.rf
  have hl : lv_has ls 1 [(0, .int v)] := hl
  refine lv_iload_n hx hb dX1_signOf_0 rfl (lv_at hl 0 rfl) ?_
  refine lv_if_ge (tgt := 8) hx hb dX1_signOf_1 (by decide) (fun c1 => ?_) (fun c1 => ?_)
  · refine lv_iload_n hx hb dX1_signOf_8 rfl (lv_at hl 0 rfl) ?_
    refine lv_if_le (tgt := 16) hx hb dX1_signOf_9 (by decide) (fun c9 => ?_) (fun c9 => ?_)
    · refine lv_iconst (v := 0) hx hb dX1_signOf_16 (by decide) ?_
      exact g_endRi hx hb hr hlocks dX1_signOf_17 (by first | exact sgI_neg c1 | exact sgI_pos c9 | exact sgI_zero c1 c9)
    · refine lv_iconst (v := 1) hx hb dX1_signOf_12 (by decide) ?_
      refine lv_goto (tgt := 17) hx hb dX1_signOf_13 (by decide) ?_
      exact g_endRi hx hb hr hlocks dX1_signOf_17 (by first | exact sgI_neg c1 | exact sgI_pos c9 | exact sgI_zero c1 c9)
  · refine lv_iconst (v := (-1)) hx hb dX1_signOf_4 (by decide) ?_
    refine lv_goto (tgt := 17) hx hb dX1_signOf_5 (by decide) ?_
    exact g_endRi hx hb hr hlocks dX1_signOf_17 (by first | exact sgI_neg c1 | exact sgI_pos c9 | exact sgI_zero c1 c9)

abbrev mt_X1_heightsApart_rm : Room := { frames := 1, cells := 0, slots := 0, locals := 20 }
set_option maxHeartbeats 4000000 in
set_option maxRecDepth 100000 in
/-- heightsApart -/
theorem mt_X1_heightsApart (l : Launch) (dC : Nat → ClassId) (dI : Nat → Nat → Nat) (cA : ClassId) (sz : Nat) (x : Int32) (z : Int32) : Met l yX1_heightsApart wsX1_heightsApart mt_X1_heightsApart_rm (va_Pc [.int x, .int z] (gB (dC, dI) [(cA, .int)] [] sz)) (gR (some (.int (abI (abI x - abI z))))) 0 0 (fun _ => False) := by
  refine g_ofR (cc := cX1_heightsApart) (maxL := 2) (ret := (some .int)) (by decide) rfl (Nat.le_of_ble_eq_true rfl) (fun p e s m below meth c ls hx hb hr hml hts hown hlocks hP hK hl hD => ?_)
  have hS : va_S (fun _ => True) s.heap s.heap [] := va_S.rf
  have hl : lv_has ls 2 [(0, .int x), (1, .int z)] := hl
  refine lv_iload_n hx hb dX1_heightsApart_0 rfl (lv_at hl 0 rfl) ?_
  refine g_RSi (As := [.int x]) (rest := []) ⟨hx, hb, hml, hown, hts⟩ (mt_X1_heightOf l dC dI cA s.heap.size x) (va_cwS 1 hts gX1_heightsApart_X1_heightOf rfl rfl rfl hdX1_heightOf ⟨Nat.le_of_ble_eq_true rfl, Nat.le_of_ble_eq_true rfl⟩) hP hK hD [] (by decide) rfl rfl hl.1 rfl (Nat.le_of_ble_eq_true rfl) dX1_heightsApart_1 (Nat.zero_le _) (Nat.zero_le _) ?_
  refine lv_iload_n hx hb dX1_heightsApart_4 rfl (lv_at hl 1 rfl) ?_
  refine g_RSi (As := [.int z]) (rest := [.int (abI x)]) ⟨hx, hb, hml, hown, hts⟩ (mt_X1_heightOf l dC dI cA s.heap.size z) (va_cwS 1 hts gX1_heightsApart_X1_heightOf rfl rfl rfl hdX1_heightOf ⟨Nat.le_of_ble_eq_true rfl, Nat.le_of_ble_eq_true rfl⟩) hP hK hD [] (by decide) rfl rfl hl.1 rfl (Nat.le_of_ble_eq_true rfl) dX1_heightsApart_5 (Nat.zero_le _) (Nat.zero_le _) ?_
  refine lv_isub hx hb dX1_heightsApart_8 ?_
  refine g_RSi (As := [.int ((abI x) - (abI z))]) (rest := []) ⟨hx, hb, hml, hown, hts⟩ (mt_X1_heightOf l dC dI cA s.heap.size ((abI x) - (abI z))) (va_cwS 1 hts gX1_heightsApart_X1_heightOf rfl rfl rfl hdX1_heightOf ⟨Nat.le_of_ble_eq_true rfl, Nat.le_of_ble_eq_true rfl⟩) hP hK hD [] (by decide) rfl rfl hl.1 rfl (Nat.le_of_ble_eq_true rfl) dX1_heightsApart_9 (Nat.zero_le _) (Nat.zero_le _) ?_
  exact g_endRi hx hb hr hlocks dX1_heightsApart_12 rfl

abbrev mt_X1_heightsAdded_rm : Room := { frames := 1, cells := 0, slots := 0, locals := 21 }
set_option maxHeartbeats 4000000 in
set_option maxRecDepth 100000 in
/-- heightsAdded -/
theorem mt_X1_heightsAdded (l : Launch) (dC : Nat → ClassId) (dI : Nat → Nat → Nat) (cA : ClassId) (sz : Nat) (h : Nat) (a : Nat) (L : List Int32) (f : Nat → Int32) (hR : RI L f) : Met l yX1_heightsAdded wsX1_heightsAdded mt_X1_heightsAdded_rm (va_Pc [.ref h] (gB (dC, dI) [(cA, .int)] [(h, .inr (0, [.ref a, .int (nI L.length)])), (a, .inl (cA, (100, .inl f)))] sz)) (gR (some (.int (accL L abI L.length)))) 0 0 (fun _ => False) := by
  refine g_ofR (cc := cX1_heightsAdded) (maxL := 3) (ret := (some .int)) (by decide) rfl (Nat.le_of_ble_eq_true rfl) (fun p e s m below meth c ls hx hb hr hml hts hown hlocks hP hK hl hD => ?_)
  have hS : va_S (fun _ => True) s.heap s.heap [] := va_S.rf
  have hl : lv_has ls 3 [(0, .ref h)] := hl
  have hL := hR.1
  refine lv_iconst (v := 0) hx hb dX1_heightsAdded_0 (by decide) ?_
  refine lv_istore_n (lv' := [(1, .int 0), (0, .ref h)]) hx hb dX1_heightsAdded_1 rfl hl (by decide) rfl (fun ls hl => ?_)
  refine lv_iconst (v := 0) hx hb dX1_heightsAdded_2 (by decide) ?_
  refine lv_istore_n (lv' := [(2, .int 0), (1, .int 0), (0, .ref h)]) hx hb dX1_heightsAdded_3 rfl hl (by decide) rfl (fun ls hl => ?_)
  have lp4 : ∀ (d : Nat) (k : Nat) (hk : k ≤ L.length), L.length - k < d → ∀ ls : Array Slot, lv_has ls 3 [(2, .int (nI k)), (1, .int (accL L abI k)), (0, .ref h)] → W p l e mt_X1_heightsAdded_rm s m ([.ref h] : List Value).toArray below meth c s.heap [] 0 0 (MQ below (gR (some (.int (accL L abI L.length)))) ([.ref h] : List Value).toArray s 0 0 (fun _ => False)) (F0 m 4 ls []) := by
    intro d
    induction d with
    | zero => intro k hk hd; exact absurd hd (Nat.not_lt_zero _)
    | succ d ih4 =>
      intro k hk hd ls hl
      refine lv_iload_n hx hb dX1_heightsAdded_4 rfl (lv_at hl 0 rfl) ?_
      refine lv_aload_n hx hb dX1_heightsAdded_5 rfl (lv_at hl 2 rfl) ?_
      refine g_RVi (As := []) (rest := [.int (nI k)]) ⟨hx, hb, hml, hown, hts⟩ (mt_X0_size l dC dI cA s.heap.size h a (nI L.length) f) (cwV 0 hts gX1_heightsAdded_X0_size rfl rfl rfl hdX0_size ⟨Nat.le_of_ble_eq_true rfl, Nat.le_of_ble_eq_true rfl⟩) hP hK hD [0, 1] (by decide) rfl (va_recv hK hP (ci := 0) (q0 := 0) rfl rfl) rfl hl.1 rfl (Nat.le_of_ble_eq_true rfl) dX1_heightsAdded_6 (Nat.zero_le _) (Nat.zero_le _) ?_
      refine lv_icmp_ge (tgt := 29) hx hb dX1_heightsAdded_9 (by decide) (fun c9 => ?_) (fun c9 => ?_)
      · have c9 : L.length ≤ k := g_geT k L.length (by omega) (by omega) c9
        refine lv_iload_n hx hb dX1_heightsAdded_29 rfl (lv_at hl 1 rfl) ?_
        exact g_endRi hx hb hr hlocks dX1_heightsAdded_30 (by rw [show k = L.length by omega])
      · have c9 : k < L.length := g_geF k L.length (by omega) (by omega) c9
        refine lv_iload_n hx hb dX1_heightsAdded_12 rfl (lv_at hl 1 rfl) ?_
        refine lv_aload_n hx hb dX1_heightsAdded_13 rfl (lv_at hl 2 rfl) ?_
        refine lv_iload_n hx hb dX1_heightsAdded_14 rfl (lv_at hl 0 rfl) ?_
        refine g_RVi (As := [.int (nI k)]) (rest := [.int (accL L abI k)]) ⟨hx, hb, hml, hown, hts⟩ (mt_X0_at l dC dI cA s.heap.size h a L f k hR (by first | omega | (simp only [List.length_append, List.length_cons, List.length_nil, List.length_set, turnL_len]; omega))) (cwV 1 hts gX1_heightsAdded_X0_at rfl rfl rfl hdX0_at ⟨Nat.le_of_ble_eq_true rfl, Nat.le_of_ble_eq_true rfl⟩) hP hK hD [0, 1] (by decide) rfl (va_recv hK hP (ci := 0) (q0 := 0) rfl rfl) rfl hl.1 rfl (Nat.le_of_ble_eq_true rfl) dX1_heightsAdded_15 (Nat.zero_le _) (Nat.zero_le _) ?_
        refine g_RSi (As := [.int (atL L k)]) (rest := [.int (accL L abI k)]) ⟨hx, hb, hml, hown, hts⟩ (mt_X1_heightOf l dC dI cA s.heap.size (atL L k)) (va_cwS 1 hts gX1_heightsAdded_X1_heightOf rfl rfl rfl hdX1_heightOf ⟨Nat.le_of_ble_eq_true rfl, Nat.le_of_ble_eq_true rfl⟩) hP hK hD [] (by decide) rfl rfl hl.1 rfl (Nat.le_of_ble_eq_true rfl) dX1_heightsAdded_18 (Nat.zero_le _) (Nat.zero_le _) ?_
        refine lv_iadd hx hb dX1_heightsAdded_21 ?_
        refine lv_istore_n (lv' := [(1, .int ((accL L abI k) + (abI (atL L k)))), (2, .int (nI k)), (0, .ref h)]) hx hb dX1_heightsAdded_22 rfl hl (by decide) rfl (fun ls hl => ?_)
        refine lv_iinc (v := nI (k + 1)) (lv' := [(2, .int (nI (k + 1))), (1, .int ((accL L abI k) + (abI (atL L k)))), (0, .ref h)]) hx hb dX1_heightsAdded_23 hl (k := 1) rfl (g_inc _) (by decide) rfl (fun ls hl => ?_)
        refine lv_goto (tgt := 4) hx hb dX1_heightsAdded_26 (by decide) ?_
        exact ih4 (k + 1) (by omega) (by omega) _ (lv_sub hl [0, 1, 2] rfl)
  exact lp4 ((L.length - 0) + 1) 0 (Nat.zero_le _) (Nat.lt_succ_self _) _ (lv_sub hl [0, 1, 2] rfl)

abbrev mt_X1_signsAdded_rm : Room := { frames := 1, cells := 0, slots := 0, locals := 21 }
set_option maxHeartbeats 4000000 in
set_option maxRecDepth 100000 in
/-- signsAdded -/
theorem mt_X1_signsAdded (l : Launch) (dC : Nat → ClassId) (dI : Nat → Nat → Nat) (cA : ClassId) (sz : Nat) (h : Nat) (a : Nat) (L : List Int32) (f : Nat → Int32) (hR : RI L f) : Met l yX1_signsAdded wsX1_signsAdded mt_X1_signsAdded_rm (va_Pc [.ref h] (gB (dC, dI) [(cA, .int)] [(h, .inr (0, [.ref a, .int (nI L.length)])), (a, .inl (cA, (100, .inl f)))] sz)) (gR (some (.int (accL L sgI L.length)))) 0 0 (fun _ => False) := by
  refine g_ofR (cc := cX1_signsAdded) (maxL := 3) (ret := (some .int)) (by decide) rfl (Nat.le_of_ble_eq_true rfl) (fun p e s m below meth c ls hx hb hr hml hts hown hlocks hP hK hl hD => ?_)
  have hS : va_S (fun _ => True) s.heap s.heap [] := va_S.rf
  have hl : lv_has ls 3 [(0, .ref h)] := hl
  have hL := hR.1
  refine lv_iconst (v := 0) hx hb dX1_signsAdded_0 (by decide) ?_
  refine lv_istore_n (lv' := [(1, .int 0), (0, .ref h)]) hx hb dX1_signsAdded_1 rfl hl (by decide) rfl (fun ls hl => ?_)
  refine lv_iconst (v := 0) hx hb dX1_signsAdded_2 (by decide) ?_
  refine lv_istore_n (lv' := [(2, .int 0), (1, .int 0), (0, .ref h)]) hx hb dX1_signsAdded_3 rfl hl (by decide) rfl (fun ls hl => ?_)
  have lp4 : ∀ (d : Nat) (k : Nat) (hk : k ≤ L.length), L.length - k < d → ∀ ls : Array Slot, lv_has ls 3 [(2, .int (nI k)), (1, .int (accL L sgI k)), (0, .ref h)] → W p l e mt_X1_signsAdded_rm s m ([.ref h] : List Value).toArray below meth c s.heap [] 0 0 (MQ below (gR (some (.int (accL L sgI L.length)))) ([.ref h] : List Value).toArray s 0 0 (fun _ => False)) (F0 m 4 ls []) := by
    intro d
    induction d with
    | zero => intro k hk hd; exact absurd hd (Nat.not_lt_zero _)
    | succ d ih4 =>
      intro k hk hd ls hl
      refine lv_iload_n hx hb dX1_signsAdded_4 rfl (lv_at hl 0 rfl) ?_
      refine lv_aload_n hx hb dX1_signsAdded_5 rfl (lv_at hl 2 rfl) ?_
      refine g_RVi (As := []) (rest := [.int (nI k)]) ⟨hx, hb, hml, hown, hts⟩ (mt_X0_size l dC dI cA s.heap.size h a (nI L.length) f) (cwV 0 hts gX1_signsAdded_X0_size rfl rfl rfl hdX0_size ⟨Nat.le_of_ble_eq_true rfl, Nat.le_of_ble_eq_true rfl⟩) hP hK hD [0, 1] (by decide) rfl (va_recv hK hP (ci := 0) (q0 := 0) rfl rfl) rfl hl.1 rfl (Nat.le_of_ble_eq_true rfl) dX1_signsAdded_6 (Nat.zero_le _) (Nat.zero_le _) ?_
      refine lv_icmp_ge (tgt := 29) hx hb dX1_signsAdded_9 (by decide) (fun c9 => ?_) (fun c9 => ?_)
      · have c9 : L.length ≤ k := g_geT k L.length (by omega) (by omega) c9
        refine lv_iload_n hx hb dX1_signsAdded_29 rfl (lv_at hl 1 rfl) ?_
        exact g_endRi hx hb hr hlocks dX1_signsAdded_30 (by rw [show k = L.length by omega])
      · have c9 : k < L.length := g_geF k L.length (by omega) (by omega) c9
        refine lv_iload_n hx hb dX1_signsAdded_12 rfl (lv_at hl 1 rfl) ?_
        refine lv_aload_n hx hb dX1_signsAdded_13 rfl (lv_at hl 2 rfl) ?_
        refine lv_iload_n hx hb dX1_signsAdded_14 rfl (lv_at hl 0 rfl) ?_
        refine g_RVi (As := [.int (nI k)]) (rest := [.int (accL L sgI k)]) ⟨hx, hb, hml, hown, hts⟩ (mt_X0_at l dC dI cA s.heap.size h a L f k hR (by first | omega | (simp only [List.length_append, List.length_cons, List.length_nil, List.length_set, turnL_len]; omega))) (cwV 1 hts gX1_signsAdded_X0_at rfl rfl rfl hdX0_at ⟨Nat.le_of_ble_eq_true rfl, Nat.le_of_ble_eq_true rfl⟩) hP hK hD [0, 1] (by decide) rfl (va_recv hK hP (ci := 0) (q0 := 0) rfl rfl) rfl hl.1 rfl (Nat.le_of_ble_eq_true rfl) dX1_signsAdded_15 (Nat.zero_le _) (Nat.zero_le _) ?_
        refine g_RSi (As := [.int (atL L k)]) (rest := [.int (accL L sgI k)]) ⟨hx, hb, hml, hown, hts⟩ (mt_X1_signOf l dC dI cA s.heap.size (atL L k)) (va_cwS 1 hts gX1_signsAdded_X1_signOf rfl rfl rfl hdX1_signOf ⟨Nat.le_of_ble_eq_true rfl, Nat.le_of_ble_eq_true rfl⟩) hP hK hD [] (by decide) rfl rfl hl.1 rfl (Nat.le_of_ble_eq_true rfl) dX1_signsAdded_18 (Nat.zero_le _) (Nat.zero_le _) ?_
        refine lv_iadd hx hb dX1_signsAdded_21 ?_
        refine lv_istore_n (lv' := [(1, .int ((accL L sgI k) + (sgI (atL L k)))), (2, .int (nI k)), (0, .ref h)]) hx hb dX1_signsAdded_22 rfl hl (by decide) rfl (fun ls hl => ?_)
        refine lv_iinc (v := nI (k + 1)) (lv' := [(2, .int (nI (k + 1))), (1, .int ((accL L sgI k) + (sgI (atL L k)))), (0, .ref h)]) hx hb dX1_signsAdded_23 hl (k := 1) rfl (g_inc _) (by decide) rfl (fun ls hl => ?_)
        refine lv_goto (tgt := 4) hx hb dX1_signsAdded_26 (by decide) ?_
        exact ih4 (k + 1) (by omega) (by omega) _ (lv_sub hl [0, 1, 2] rfl)
  exact lp4 ((L.length - 0) + 1) 0 (Nat.zero_le _) (Nat.lt_succ_self _) _ (lv_sub hl [0, 1, 2] rfl)

abbrev mt_X1_placeBehind_rm : Room := { frames := 1, cells := 0, slots := 0, locals := 20 }
set_option maxHeartbeats 4000000 in
set_option maxRecDepth 100000 in
/-- placeBehind -/
theorem mt_X1_placeBehind (l : Launch) (dC : Nat → ClassId) (dI : Nat → Nat → Nat) (cA : ClassId) (sz : Nat) (x : Int32) (q : Int32) : Met l yX1_placeBehind wsX1_placeBehind mt_X1_placeBehind_rm (va_Pc [.int x, .int q] (gB (dC, dI) [(cA, .int)] [] sz)) (gR (some (.int (plB x q)))) 0 0 (fun _ => False) := by
  refine g_ofR (cc := cX1_placeBehind) (maxL := 3) (ret := (some .int)) (by decide) rfl (Nat.le_of_ble_eq_true rfl) (fun p e s m below meth c ls hx hb hr hml hts hown hlocks hP hK hl hD => ?_)
  have hS : va_S (fun _ => True) s.heap s.heap [] := va_S.rf
  have hl : lv_has ls 3 [(0, .int x), (1, .int q)] := hl
  refine lv_iload_n hx hb dX1_placeBehind_0 rfl (lv_at hl 0 rfl) ?_
  refine g_RSi (As := [.int x]) (rest := []) ⟨hx, hb, hml, hown, hts⟩ (mt_X1_heightOf l dC dI cA s.heap.size x) (va_cwS 1 hts gX1_placeBehind_X1_heightOf rfl rfl rfl hdX1_heightOf ⟨Nat.le_of_ble_eq_true rfl, Nat.le_of_ble_eq_true rfl⟩) hP hK hD [] (by decide) rfl rfl hl.1 rfl (Nat.le_of_ble_eq_true rfl) dX1_placeBehind_1 (Nat.zero_le _) (Nat.zero_le _) ?_
  refine lv_istore_n (lv' := [(2, .int (abI x)), (0, .int x), (1, .int q)]) hx hb dX1_placeBehind_4 rfl hl (by decide) rfl (fun ls hl => ?_)
  refine lv_iload_n hx hb dX1_placeBehind_5 rfl (lv_at hl 2 rfl) ?_
  refine lv_iload_n hx hb dX1_placeBehind_6 rfl (lv_at hl 0 rfl) ?_
  refine lv_iconst (v := 1) hx hb dX1_placeBehind_7 (by decide) ?_
  refine lv_isub hx hb dX1_placeBehind_8 ?_
  refine lv_icmp_ne (tgt := 14) hx hb dX1_placeBehind_9 (by decide) (fun c9 => ?_) (fun c9 => ?_)
  · refine lv_iload_n hx hb dX1_placeBehind_14 rfl (lv_at hl 2 rfl) ?_
    refine lv_iload_n hx hb dX1_placeBehind_15 rfl (lv_at hl 0 rfl) ?_
    refine lv_icmp_ne (tgt := 25) hx hb dX1_placeBehind_16 (by decide) (fun c16 => ?_) (fun c16 => ?_)
    · refine lv_iload_n hx hb dX1_placeBehind_25 rfl (lv_at hl 2 rfl) ?_
      exact g_endRi hx hb hr hlocks dX1_placeBehind_26 (by unfold plB; first | (rw [if_neg c9, if_pos c16]) | (rw [if_neg c9, if_neg c16]))
    · refine lv_iload_n hx hb dX1_placeBehind_19 rfl (lv_at hl 0 rfl) ?_
      refine lv_iconst (v := 1) hx hb dX1_placeBehind_20 (by decide) ?_
      refine lv_isub hx hb dX1_placeBehind_21 ?_
      refine lv_goto (tgt := 26) hx hb dX1_placeBehind_22 (by decide) ?_
      exact g_endRi hx hb hr hlocks dX1_placeBehind_26 (by unfold plB; first | (rw [if_neg c9, if_pos c16]) | (rw [if_neg c9, if_neg c16]))
  · refine lv_iload_n hx hb dX1_placeBehind_12 rfl (lv_at hl 0 rfl) ?_
    exact g_endRi hx hb hr hlocks dX1_placeBehind_13 (by unfold plB; rw [if_pos c9])

abbrev mt_X1_placeAtEnd_rm : Room := { frames := 2, cells := 0, slots := 0, locals := 42 }
set_option maxHeartbeats 4000000 in
set_option maxRecDepth 100000 in
/-- placeAtEnd -/
theorem mt_X1_placeAtEnd (l : Launch) (dC : Nat → ClassId) (dI : Nat → Nat → Nat) (cA : ClassId) (sz : Nat) (h : Nat) (a : Nat) (L : List Int32) (f : Nat → Int32) (r : Int32) (hR : RI L f) : Met l yX1_placeAtEnd wsX1_placeAtEnd mt_X1_placeAtEnd_rm (va_Pc [.ref h, .int r] (gB (dC, dI) [(cA, .int)] [(h, .inr (0, [.ref a, .int (nI L.length)])), (a, .inl (cA, (100, .inl f)))] sz)) (gR (some (.int (plE L r L.length)))) 0 0 (fun _ => False) := by
  refine g_ofR (cc := cX1_placeAtEnd) (maxL := 4) (ret := (some .int)) (by decide) rfl (Nat.le_of_ble_eq_true rfl) (fun p e s m below meth c ls hx hb hr hml hts hown hlocks hP hK hl hD => ?_)
  have hS : va_S (fun _ => True) s.heap s.heap [] := va_S.rf
  have hl : lv_has ls 4 [(0, .ref h), (1, .int r)] := hl
  have hL := hR.1
  refine lv_iload_n hx hb dX1_placeAtEnd_0 rfl (lv_at hl 1 rfl) ?_
  refine lv_istore_n (lv' := [(2, .int r), (0, .ref h), (1, .int r)]) hx hb dX1_placeAtEnd_1 rfl hl (by decide) rfl (fun ls hl => ?_)
  refine lv_iconst (v := 0) hx hb dX1_placeAtEnd_2 (by decide) ?_
  refine lv_istore_n (lv' := [(3, .int 0), (2, .int r), (0, .ref h), (1, .int r)]) hx hb dX1_placeAtEnd_3 rfl hl (by decide) rfl (fun ls hl => ?_)
  have lp4 : ∀ (d : Nat) (k : Nat) (hk : k ≤ L.length), L.length - k < d → ∀ ls : Array Slot, lv_has ls 4 [(3, .int (nI k)), (2, .int (plE L r k)), (0, .ref h)] → W p l e mt_X1_placeAtEnd_rm s m ([.ref h, .int r] : List Value).toArray below meth c s.heap [] 0 0 (MQ below (gR (some (.int (plE L r L.length)))) ([.ref h, .int r] : List Value).toArray s 0 0 (fun _ => False)) (F0 m 4 ls []) := by
    intro d
    induction d with
    | zero => intro k hk hd; exact absurd hd (Nat.not_lt_zero _)
    | succ d ih4 =>
      intro k hk hd ls hl
      refine lv_iload_n hx hb dX1_placeAtEnd_4 rfl (lv_at hl 0 rfl) ?_
      refine lv_aload_n hx hb dX1_placeAtEnd_5 rfl (lv_at hl 2 rfl) ?_
      refine g_RVi (As := []) (rest := [.int (nI k)]) ⟨hx, hb, hml, hown, hts⟩ (mt_X0_size l dC dI cA s.heap.size h a (nI L.length) f) (cwV 0 hts gX1_placeAtEnd_X0_size rfl rfl rfl hdX0_size ⟨Nat.le_of_ble_eq_true rfl, Nat.le_of_ble_eq_true rfl⟩) hP hK hD [0, 1] (by decide) rfl (va_recv hK hP (ci := 0) (q0 := 0) rfl rfl) rfl hl.1 rfl (Nat.le_of_ble_eq_true rfl) dX1_placeAtEnd_6 (Nat.zero_le _) (Nat.zero_le _) ?_
      refine lv_icmp_ge (tgt := 28) hx hb dX1_placeAtEnd_9 (by decide) (fun c9 => ?_) (fun c9 => ?_)
      · have c9 : L.length ≤ k := g_geT k L.length (by omega) (by omega) c9
        refine lv_iload_n hx hb dX1_placeAtEnd_28 rfl (lv_at hl 1 rfl) ?_
        exact g_endRi hx hb hr hlocks dX1_placeAtEnd_29 (by rw [show k = L.length by omega])
      · have c9 : k < L.length := g_geF k L.length (by omega) (by omega) c9
        refine lv_aload_n hx hb dX1_placeAtEnd_12 rfl (lv_at hl 2 rfl) ?_
        refine lv_iload_n hx hb dX1_placeAtEnd_13 rfl (lv_at hl 0 rfl) ?_
        refine g_RVi (As := [.int (nI k)]) (rest := []) ⟨hx, hb, hml, hown, hts⟩ (mt_X0_at l dC dI cA s.heap.size h a L f k hR (by first | omega | (simp only [List.length_append, List.length_cons, List.length_nil, List.length_set, turnL_len]; omega))) (cwV 1 hts gX1_placeAtEnd_X0_at rfl rfl rfl hdX0_at ⟨Nat.le_of_ble_eq_true rfl, Nat.le_of_ble_eq_true rfl⟩) hP hK hD [0, 1] (by decide) rfl (va_recv hK hP (ci := 0) (q0 := 0) rfl rfl) rfl hl.1 rfl (Nat.le_of_ble_eq_true rfl) dX1_placeAtEnd_14 (Nat.zero_le _) (Nat.zero_le _) ?_
        refine lv_iload_n hx hb dX1_placeAtEnd_17 rfl (lv_at hl 1 rfl) ?_
        refine g_RSi (As := [.int (atL L k), .int (plE L r k)]) (rest := []) ⟨hx, hb, hml, hown, hts⟩ (mt_X1_placeBehind l dC dI cA s.heap.size (atL L k) (plE L r k)) (va_cwS 2 hts gX1_placeAtEnd_X1_placeBehind rfl rfl rfl hdX1_placeBehind ⟨Nat.le_of_ble_eq_true rfl, Nat.le_of_ble_eq_true rfl⟩) hP hK hD [] (by decide) rfl rfl hl.1 rfl (Nat.le_of_ble_eq_true rfl) dX1_placeAtEnd_18 (Nat.zero_le _) (Nat.zero_le _) ?_
        refine lv_istore_n (lv' := [(2, .int (plB (atL L k) (plE L r k))), (3, .int (nI k)), (0, .ref h)]) hx hb dX1_placeAtEnd_21 rfl hl (by decide) rfl (fun ls hl => ?_)
        refine lv_iinc (v := nI (k + 1)) (lv' := [(3, .int (nI (k + 1))), (2, .int (plB (atL L k) (plE L r k))), (0, .ref h)]) hx hb dX1_placeAtEnd_22 hl (k := 1) rfl (g_inc _) (by decide) rfl (fun ls hl => ?_)
        refine lv_goto (tgt := 4) hx hb dX1_placeAtEnd_25 (by decide) ?_
        exact ih4 (k + 1) (by omega) (by omega) _ (lv_sub hl [0, 1, 2] rfl)
  exact lp4 ((L.length - 0) + 1) 0 (Nat.zero_le _) (Nat.lt_succ_self _) _ (lv_sub hl [0, 1, 2] rfl)

abbrev mt_X1_signsOfCrossings_rm : Room := { frames := 2, cells := 0, slots := 0, locals := 42 }
set_option maxHeartbeats 4000000 in
set_option maxRecDepth 100000 in
/-- signsOfCrossings -/
theorem mt_X1_signsOfCrossings (l : Launch) (dC : Nat → ClassId) (dI : Nat → Nat → Nat) (cA : ClassId) (sz : Nat) (h : Nat) (a : Nat) (L : List Int32) (f : Nat → Int32) (x : Int32) (y : Int32) (hR : RI L f) : Met l yX1_signsOfCrossings wsX1_signsOfCrossings mt_X1_signsOfCrossings_rm (va_Pc [.ref h, .int x, .int y] (gB (dC, dI) [(cA, .int)] [(h, .inr (0, [.ref a, .int (nI L.length)])), (a, .inl (cA, (100, .inl f)))] sz)) (gR (some (.int (crS L x y L.length)))) 0 0 (fun _ => False) := by
  refine g_ofR (cc := cX1_signsOfCrossings) (maxL := 10) (ret := (some .int)) (by decide) rfl (Nat.le_of_ble_eq_true rfl) (fun p e s m below meth c ls hx hb hr hml hts hown hlocks hP hK hl hD => ?_)
  have hS : va_S (fun _ => True) s.heap s.heap [] := va_S.rf
  have hl : lv_has ls 10 [(0, .ref h), (1, .int x), (2, .int y)] := hl
  have hL := hR.1
  refine lv_iconst (v := 0) hx hb dX1_signsOfCrossings_0 (by decide) ?_
  refine lv_istore_n (lv' := [(3, .int 0), (0, .ref h), (1, .int x), (2, .int y)]) hx hb dX1_signsOfCrossings_1 rfl hl (by decide) rfl (fun ls hl => ?_)
  refine lv_iload_n hx hb dX1_signsOfCrossings_2 rfl (lv_at hl 2 rfl) ?_
  refine lv_istore (lv' := [(4, .int x), (3, .int 0), (0, .ref h), (1, .int x), (2, .int y)]) hx hb dX1_signsOfCrossings_3 hl (by decide) rfl (fun ls hl => ?_)
  refine lv_iload_n hx hb dX1_signsOfCrossings_5 rfl (lv_at hl 4 rfl) ?_
  refine lv_istore (lv' := [(5, .int y), (4, .int x), (3, .int 0), (0, .ref h), (1, .int x), (2, .int y)]) hx hb dX1_signsOfCrossings_6 hl (by decide) rfl (fun ls hl => ?_)
  refine lv_iconst (v := 0) hx hb dX1_signsOfCrossings_8 (by decide) ?_
  refine lv_istore (lv' := [(6, .int 0), (5, .int y), (4, .int x), (3, .int 0), (0, .ref h), (1, .int x), (2, .int y)]) hx hb dX1_signsOfCrossings_9 hl (by decide) rfl (fun ls hl => ?_)
  have lp11 : ∀ (d : Nat) (k : Nat) (hk : k ≤ L.length), L.length - k < d → ∀ ls : Array Slot, lv_has ls 10 [(6, .int (nI k)), (5, .int (plE L y k)), (4, .int (plE L x k)), (3, .int (crS L x y k)), (0, .ref h)] → W p l e mt_X1_signsOfCrossings_rm s m ([.ref h, .int x, .int y] : List Value).toArray below meth c s.heap [] 0 0 (MQ below (gR (some (.int (crS L x y L.length)))) ([.ref h, .int x, .int y] : List Value).toArray s 0 0 (fun _ => False)) (F0 m 11 ls []) := by
    intro d
    induction d with
    | zero => intro k hk hd; exact absurd hd (Nat.not_lt_zero _)
    | succ d ih11 =>
      intro k hk hd ls hl
      refine lv_iload hx hb dX1_signsOfCrossings_11 (lv_at hl 0 rfl) ?_
      refine lv_aload_n hx hb dX1_signsOfCrossings_13 rfl (lv_at hl 4 rfl) ?_
      refine g_RVi (As := []) (rest := [.int (nI k)]) ⟨hx, hb, hml, hown, hts⟩ (mt_X0_size l dC dI cA s.heap.size h a (nI L.length) f) (cwV 0 hts gX1_signsOfCrossings_X0_size rfl rfl rfl hdX0_size ⟨Nat.le_of_ble_eq_true rfl, Nat.le_of_ble_eq_true rfl⟩) hP hK hD [0, 1] (by decide) rfl (va_recv hK hP (ci := 0) (q0 := 0) rfl rfl) rfl hl.1 rfl (Nat.le_of_ble_eq_true rfl) dX1_signsOfCrossings_14 (Nat.zero_le _) (Nat.zero_le _) ?_
      refine lv_icmp_ge (tgt := 82) hx hb dX1_signsOfCrossings_17 (by decide) (fun c17 => ?_) (fun c17 => ?_)
      · have c17 : L.length ≤ k := g_geT k L.length (by omega) (by omega) c17
        refine lv_iload_n hx hb dX1_signsOfCrossings_82 rfl (lv_at hl 3 rfl) ?_
        exact g_endRi hx hb hr hlocks dX1_signsOfCrossings_83 (by rw [show k = L.length by omega])
      · have c17 : k < L.length := g_geF k L.length (by omega) (by omega) c17
        refine lv_aload_n hx hb dX1_signsOfCrossings_20 rfl (lv_at hl 4 rfl) ?_
        refine lv_iload hx hb dX1_signsOfCrossings_21 (lv_at hl 0 rfl) ?_
        refine g_RVi (As := [.int (nI k)]) (rest := []) ⟨hx, hb, hml, hown, hts⟩ (mt_X0_at l dC dI cA s.heap.size h a L f k hR (by first | omega | (simp only [List.length_append, List.length_cons, List.length_nil, List.length_set, turnL_len]; omega))) (cwV 1 hts gX1_signsOfCrossings_X0_at rfl rfl rfl hdX0_at ⟨Nat.le_of_ble_eq_true rfl, Nat.le_of_ble_eq_true rfl⟩) hP hK hD [0, 1] (by decide) rfl (va_recv hK hP (ci := 0) (q0 := 0) rfl rfl) rfl hl.1 rfl (Nat.le_of_ble_eq_true rfl) dX1_signsOfCrossings_23 (Nat.zero_le _) (Nat.zero_le _) ?_
        refine lv_istore (lv' := [(7, .int (atL L k)), (6, .int (nI k)), (5, .int (plE L y k)), (4, .int (plE L x k)), (3, .int (crS L x y k)), (0, .ref h)]) hx hb dX1_signsOfCrossings_26 hl (by decide) rfl (fun ls hl => ?_)
        refine lv_iload hx hb dX1_signsOfCrossings_28 (lv_at hl 0 rfl) ?_
        refine lv_iload hx hb dX1_signsOfCrossings_30 (lv_at hl 3 rfl) ?_
        refine g_RSi (As := [.int (atL L k), .int (plE L x k)]) (rest := []) ⟨hx, hb, hml, hown, hts⟩ (mt_X1_placeBehind l dC dI cA s.heap.size (atL L k) (plE L x k)) (va_cwS 2 hts gX1_signsOfCrossings_X1_placeBehind rfl rfl rfl hdX1_placeBehind ⟨Nat.le_of_ble_eq_true rfl, Nat.le_of_ble_eq_true rfl⟩) hP hK hD [] (by decide) rfl rfl hl.1 rfl (Nat.le_of_ble_eq_true rfl) dX1_signsOfCrossings_32 (Nat.zero_le _) (Nat.zero_le _) ?_
        refine lv_istore (lv' := [(8, .int (plB (atL L k) (plE L x k))), (7, .int (atL L k)), (6, .int (nI k)), (5, .int (plE L y k)), (4, .int (plE L x k)), (3, .int (crS L x y k)), (0, .ref h)]) hx hb dX1_signsOfCrossings_35 hl (by decide) rfl (fun ls hl => ?_)
        refine lv_iload hx hb dX1_signsOfCrossings_37 (lv_at hl 1 rfl) ?_
        refine lv_iload hx hb dX1_signsOfCrossings_39 (lv_at hl 3 rfl) ?_
        refine g_RSi (As := [.int (atL L k), .int (plE L y k)]) (rest := []) ⟨hx, hb, hml, hown, hts⟩ (mt_X1_placeBehind l dC dI cA s.heap.size (atL L k) (plE L y k)) (va_cwS 2 hts gX1_signsOfCrossings_X1_placeBehind rfl rfl rfl hdX1_placeBehind ⟨Nat.le_of_ble_eq_true rfl, Nat.le_of_ble_eq_true rfl⟩) hP hK hD [] (by decide) rfl rfl hl.1 rfl (Nat.le_of_ble_eq_true rfl) dX1_signsOfCrossings_41 (Nat.zero_le _) (Nat.zero_le _) ?_
        refine lv_istore (lv' := [(9, .int (plB (atL L k) (plE L y k))), (8, .int (plB (atL L k) (plE L x k))), (7, .int (atL L k)), (6, .int (nI k)), (5, .int (plE L y k)), (4, .int (plE L x k)), (3, .int (crS L x y k)), (0, .ref h)]) hx hb dX1_signsOfCrossings_44 hl (by decide) rfl (fun ls hl => ?_)
        refine lv_iload hx hb dX1_signsOfCrossings_46 (lv_at hl 1 rfl) ?_
        refine lv_iload hx hb dX1_signsOfCrossings_48 (lv_at hl 5 rfl) ?_
        refine lv_icmp_eq (tgt := 68) hx hb dX1_signsOfCrossings_50 (by decide) (fun c50 => ?_) (fun c50 => ?_)
        · rw [show crS L x y k = crS L x y (k + 1) from by show _ = crS L x y k + _; rw [if_neg (fun q => by first | exact q.1 c50 | exact q.2 c57), Int32.add_zero]] at hl
          refine lv_iload hx hb dX1_signsOfCrossings_68 (lv_at hl 1 rfl) ?_
          refine lv_istore (lv' := [(4, .int (plB (atL L k) (plE L x k))), (9, .int (plB (atL L k) (plE L y k))), (8, .int (plB (atL L k) (plE L x k))), (7, .int (atL L k)), (6, .int (nI k)), (5, .int (plE L y k)), (3, .int (crS L x y (k + 1))), (0, .ref h)]) hx hb dX1_signsOfCrossings_70 hl (by decide) rfl (fun ls hl => ?_)
          refine lv_iload hx hb dX1_signsOfCrossings_72 (lv_at hl 1 rfl) ?_
          refine lv_istore (lv' := [(5, .int (plB (atL L k) (plE L y k))), (4, .int (plB (atL L k) (plE L x k))), (9, .int (plB (atL L k) (plE L y k))), (8, .int (plB (atL L k) (plE L x k))), (7, .int (atL L k)), (6, .int (nI k)), (3, .int (crS L x y (k + 1))), (0, .ref h)]) hx hb dX1_signsOfCrossings_74 hl (by decide) rfl (fun ls hl => ?_)
          refine lv_iinc (v := nI (k + 1)) (lv' := [(6, .int (nI (k + 1))), (5, .int (plB (atL L k) (plE L y k))), (4, .int (plB (atL L k) (plE L x k))), (9, .int (plB (atL L k) (plE L y k))), (8, .int (plB (atL L k) (plE L x k))), (7, .int (atL L k)), (3, .int (crS L x y (k + 1))), (0, .ref h)]) hx hb dX1_signsOfCrossings_76 hl (k := 5) rfl (g_inc _) (by decide) rfl (fun ls hl => ?_)
          refine lv_goto (tgt := 11) hx hb dX1_signsOfCrossings_79 (by decide) ?_
          exact ih11 (k + 1) (by omega) (by omega) _ (lv_sub hl [0, 1, 2, 6, 7] rfl)
        · refine lv_iload hx hb dX1_signsOfCrossings_53 (lv_at hl 0 rfl) ?_
          refine lv_iload hx hb dX1_signsOfCrossings_55 (lv_at hl 4 rfl) ?_
          refine lv_icmp_eq (tgt := 68) hx hb dX1_signsOfCrossings_57 (by decide) (fun c57 => ?_) (fun c57 => ?_)
          · rw [show crS L x y k = crS L x y (k + 1) from by show _ = crS L x y k + _; rw [if_neg (fun q => by first | exact q.1 c50 | exact q.2 c57), Int32.add_zero]] at hl
            refine lv_iload hx hb dX1_signsOfCrossings_68 (lv_at hl 1 rfl) ?_
            refine lv_istore (lv' := [(4, .int (plB (atL L k) (plE L x k))), (9, .int (plB (atL L k) (plE L y k))), (8, .int (plB (atL L k) (plE L x k))), (7, .int (atL L k)), (6, .int (nI k)), (5, .int (plE L y k)), (3, .int (crS L x y (k + 1))), (0, .ref h)]) hx hb dX1_signsOfCrossings_70 hl (by decide) rfl (fun ls hl => ?_)
            refine lv_iload hx hb dX1_signsOfCrossings_72 (lv_at hl 1 rfl) ?_
            refine lv_istore (lv' := [(5, .int (plB (atL L k) (plE L y k))), (4, .int (plB (atL L k) (plE L x k))), (9, .int (plB (atL L k) (plE L y k))), (8, .int (plB (atL L k) (plE L x k))), (7, .int (atL L k)), (6, .int (nI k)), (3, .int (crS L x y (k + 1))), (0, .ref h)]) hx hb dX1_signsOfCrossings_74 hl (by decide) rfl (fun ls hl => ?_)
            refine lv_iinc (v := nI (k + 1)) (lv' := [(6, .int (nI (k + 1))), (5, .int (plB (atL L k) (plE L y k))), (4, .int (plB (atL L k) (plE L x k))), (9, .int (plB (atL L k) (plE L y k))), (8, .int (plB (atL L k) (plE L x k))), (7, .int (atL L k)), (3, .int (crS L x y (k + 1))), (0, .ref h)]) hx hb dX1_signsOfCrossings_76 hl (k := 5) rfl (g_inc _) (by decide) rfl (fun ls hl => ?_)
            refine lv_goto (tgt := 11) hx hb dX1_signsOfCrossings_79 (by decide) ?_
            exact ih11 (k + 1) (by omega) (by omega) _ (lv_sub hl [0, 1, 2, 6, 7] rfl)
          · refine lv_iload_n hx hb dX1_signsOfCrossings_60 rfl (lv_at hl 6 rfl) ?_
            refine lv_iload hx hb dX1_signsOfCrossings_61 (lv_at hl 2 rfl) ?_
            refine g_RSi (As := [.int (atL L k)]) (rest := [.int (crS L x y k)]) ⟨hx, hb, hml, hown, hts⟩ (mt_X1_signOf l dC dI cA s.heap.size (atL L k)) (va_cwS 1 hts gX1_signsOfCrossings_X1_signOf rfl rfl rfl hdX1_signOf ⟨Nat.le_of_ble_eq_true rfl, Nat.le_of_ble_eq_true rfl⟩) hP hK hD [] (by decide) rfl rfl hl.1 rfl (Nat.le_of_ble_eq_true rfl) dX1_signsOfCrossings_63 (Nat.zero_le _) (Nat.zero_le _) ?_
            refine lv_iadd hx hb dX1_signsOfCrossings_66 ?_
            refine lv_istore_n (lv' := [(3, .int ((crS L x y k) + (sgI (atL L k)))), (9, .int (plB (atL L k) (plE L y k))), (8, .int (plB (atL L k) (plE L x k))), (7, .int (atL L k)), (6, .int (nI k)), (5, .int (plE L y k)), (4, .int (plE L x k)), (0, .ref h)]) hx hb dX1_signsOfCrossings_67 rfl hl (by decide) rfl (fun ls hl => ?_)
            rw [show crS L x y k + sgI (atL L k) = crS L x y (k + 1) from by show _ = crS L x y k + _; rw [if_pos ⟨c50, c57⟩]] at hl
            refine lv_iload hx hb dX1_signsOfCrossings_68 (lv_at hl 2 rfl) ?_
            refine lv_istore (lv' := [(4, .int (plB (atL L k) (plE L x k))), (3, .int (crS L x y (k + 1))), (9, .int (plB (atL L k) (plE L y k))), (8, .int (plB (atL L k) (plE L x k))), (7, .int (atL L k)), (6, .int (nI k)), (5, .int (plE L y k)), (0, .ref h)]) hx hb dX1_signsOfCrossings_70 hl (by decide) rfl (fun ls hl => ?_)
            refine lv_iload hx hb dX1_signsOfCrossings_72 (lv_at hl 2 rfl) ?_
            refine lv_istore (lv' := [(5, .int (plB (atL L k) (plE L y k))), (4, .int (plB (atL L k) (plE L x k))), (3, .int (crS L x y (k + 1))), (9, .int (plB (atL L k) (plE L y k))), (8, .int (plB (atL L k) (plE L x k))), (7, .int (atL L k)), (6, .int (nI k)), (0, .ref h)]) hx hb dX1_signsOfCrossings_74 hl (by decide) rfl (fun ls hl => ?_)
            refine lv_iinc (v := nI (k + 1)) (lv' := [(6, .int (nI (k + 1))), (5, .int (plB (atL L k) (plE L y k))), (4, .int (plB (atL L k) (plE L x k))), (3, .int (crS L x y (k + 1))), (9, .int (plB (atL L k) (plE L y k))), (8, .int (plB (atL L k) (plE L x k))), (7, .int (atL L k)), (0, .ref h)]) hx hb dX1_signsOfCrossings_76 hl (k := 6) rfl (g_inc _) (by decide) rfl (fun ls hl => ?_)
            refine lv_goto (tgt := 11) hx hb dX1_signsOfCrossings_79 (by decide) ?_
            exact ih11 (k + 1) (by omega) (by omega) _ (lv_sub hl [0, 1, 2, 3, 7] rfl)
  exact lp11 ((L.length - 0) + 1) 0 (Nat.zero_le _) (Nat.lt_succ_self _) _ (lv_sub hl [0, 1, 2, 3, 4] rfl)

abbrev mt_X1_firstOfHandle_rm : Room := { frames := 1, cells := 0, slots := 0, locals := 21 }
set_option maxHeartbeats 4000000 in
set_option maxRecDepth 100000 in
/-- firstOfHandle -/
theorem mt_X1_firstOfHandle (l : Launch) (dC : Nat → ClassId) (dI : Nat → Nat → Nat) (cA : ClassId) (sz : Nat) (h : Nat) (a : Nat) (L : List Int32) (f : Nat → Int32) (k : Nat) (hR : RI L f) (hk : k ≤ 100) : Met l yX1_firstOfHandle wsX1_firstOfHandle mt_X1_firstOfHandle_rm (va_Pc [.ref h, .int (nI k)] (gB (dC, dI) [(cA, .int)] [(h, .inr (0, [.ref a, .int (nI L.length)])), (a, .inl (cA, (100, .inl f)))] sz)) (gR (some (.int (oiI (bg L k))))) 0 0 (fun _ => False) := by
  refine g_ofR (cc := cX1_firstOfHandle) (maxL := 6) (ret := (some .int)) (by decide) rfl (Nat.le_of_ble_eq_true rfl) (fun p e s m below meth c ls hx hb hr hml hts hown hlocks hP hK hl hD => ?_)
  have hS : va_S (fun _ => True) s.heap s.heap [] := va_S.rf
  have hl : lv_has ls 6 [(0, .ref h), (1, .int (nI k))] := hl
  have hL := hR.1
  refine lv_aload_n hx hb dX1_firstOfHandle_0 rfl (lv_at hl 0 rfl) ?_
  refine lv_iload_n hx hb dX1_firstOfHandle_1 rfl (lv_at hl 1 rfl) ?_
  refine g_RVi (As := [.int (nI k)]) (rest := []) ⟨hx, hb, hml, hown, hts⟩ (mt_X0_at l dC dI cA s.heap.size h a L f k hR (by first | omega | (simp only [List.length_append, List.length_cons, List.length_nil, List.length_set, turnL_len]; omega))) (cwV 1 hts gX1_firstOfHandle_X0_at rfl rfl rfl hdX0_at ⟨Nat.le_of_ble_eq_true rfl, Nat.le_of_ble_eq_true rfl⟩) hP hK hD [0, 1] (by decide) rfl (va_recv hK hP (ci := 0) (q0 := 0) rfl rfl) rfl hl.1 rfl (Nat.le_of_ble_eq_true rfl) dX1_firstOfHandle_2 (Nat.zero_le _) (Nat.zero_le _) ?_
  refine lv_istore_n (lv' := [(2, .int (atL L k)), (0, .ref h), (1, .int (nI k))]) hx hb dX1_firstOfHandle_5 rfl hl (by decide) rfl (fun ls hl => ?_)
  refine lv_iload_n hx hb dX1_firstOfHandle_6 rfl (lv_at hl 0 rfl) ?_
  refine g_RSi (As := [.int (atL L k)]) (rest := []) ⟨hx, hb, hml, hown, hts⟩ (mt_X1_heightOf l dC dI cA s.heap.size (atL L k)) (va_cwS 1 hts gX1_firstOfHandle_X1_heightOf rfl rfl rfl hdX1_heightOf ⟨Nat.le_of_ble_eq_true rfl, Nat.le_of_ble_eq_true rfl⟩) hP hK hD [] (by decide) rfl rfl hl.1 rfl (Nat.le_of_ble_eq_true rfl) dX1_firstOfHandle_7 (Nat.zero_le _) (Nat.zero_le _) ?_
  refine lv_istore_n (lv' := [(3, .int (abI (atL L k))), (2, .int (atL L k)), (0, .ref h), (1, .int (nI k))]) hx hb dX1_firstOfHandle_10 rfl hl (by decide) rfl (fun ls hl => ?_)
  refine lv_iload_n hx hb dX1_firstOfHandle_11 rfl (lv_at hl 3 rfl) ?_
  refine lv_iconst (v := 1) hx hb dX1_firstOfHandle_12 (by decide) ?_
  refine lv_isub hx hb dX1_firstOfHandle_13 ?_
  rw [plI_sub k]
  refine lv_istore (lv' := [(4, .int (plI k)), (3, .int (abI (atL L k))), (2, .int (atL L k)), (0, .ref h), (1, .int (nI k))]) hx hb dX1_firstOfHandle_14 hl (by decide) rfl (fun ls hl => ?_)
  have lp16 : ∀ (d : Nat) (j : Nat) (hj : j ≤ k) (hb9 : bgL L k j = bg L k), j < d → ∀ ls : Array Slot, lv_has ls 6 [(4, .int (plI j)), (3, .int (abI (atL L k))), (2, .int (atL L k)), (0, .ref h)] → W p l e mt_X1_firstOfHandle_rm s m ([.ref h, .int (nI k)] : List Value).toArray below meth c s.heap [] 0 0 (MQ below (gR (some (.int (oiI (bg L k))))) ([.ref h, .int (nI k)] : List Value).toArray s 0 0 (fun _ => False)) (F0 m 16 ls []) := by
    intro d
    induction d with
    | zero => intro j hj hb9 hd; exact absurd hd (Nat.not_lt_zero _)
    | succ d ih16 =>
      intro j hj hb9 hd ls hl
      cases j with
      | zero =>
        have hl : lv_has ls 6 [(4, .int (-1)), (3, .int (abI (atL L k))), (2, .int (atL L k)), (0, .ref h)] := hl
        refine lv_iload hx hb dX1_firstOfHandle_16 (lv_at hl 0 rfl) ?_
        refine lv_if_lt (tgt := 67) hx hb dX1_firstOfHandle_18 (by decide) (fun c18 => ?_) (fun c18 => ?_)
        · refine lv_iconst (v := (-1)) hx hb dX1_firstOfHandle_67 (by decide) ?_
          exact g_endRi hx hb hr hlocks dX1_firstOfHandle_68 (by rw [← hb9]; rfl)
        · exact absurd (by decide) c18
      | succ j =>
        have hl : lv_has ls 6 [(4, .int (nI j)), (3, .int (abI (atL L k))), (2, .int (atL L k)), (0, .ref h)] := hl
        refine lv_iload hx hb dX1_firstOfHandle_16 (lv_at hl 0 rfl) ?_
        refine lv_if_lt (tgt := 67) hx hb dX1_firstOfHandle_18 (by decide) (fun c18 => ?_) (fun c18 => ?_)
        · exact absurd (g_ltT j 0 (by omega) (by omega) c18) (by omega)
        · have c18 : 0 ≤ j := g_ltF j 0 (by omega) (by omega) c18
          refine lv_aload_n hx hb dX1_firstOfHandle_21 rfl (lv_at hl 3 rfl) ?_
          refine lv_iload hx hb dX1_firstOfHandle_22 (lv_at hl 0 rfl) ?_
          refine g_RVi (As := [.int (nI j)]) (rest := []) ⟨hx, hb, hml, hown, hts⟩ (mt_X0_at l dC dI cA s.heap.size h a L f j hR (by first | omega | (simp only [List.length_append, List.length_cons, List.length_nil, List.length_set, turnL_len]; omega))) (cwV 1 hts gX1_firstOfHandle_X0_at rfl rfl rfl hdX0_at ⟨Nat.le_of_ble_eq_true rfl, Nat.le_of_ble_eq_true rfl⟩) hP hK hD [0, 1] (by decide) rfl (va_recv hK hP (ci := 0) (q0 := 0) rfl rfl) rfl hl.1 rfl (Nat.le_of_ble_eq_true rfl) dX1_firstOfHandle_24 (Nat.zero_le _) (Nat.zero_le _) ?_
          refine lv_istore (lv' := [(5, .int (atL L j)), (4, .int (nI j)), (3, .int (abI (atL L k))), (2, .int (atL L k)), (0, .ref h)]) hx hb dX1_firstOfHandle_27 hl (by decide) rfl (fun ls hl => ?_)
          refine lv_iload hx hb dX1_firstOfHandle_29 (lv_at hl 0 rfl) ?_
          refine lv_iload_n hx hb dX1_firstOfHandle_31 rfl (lv_at hl 3 rfl) ?_
          refine lv_ineg hx hb dX1_firstOfHandle_32 ?_
          refine lv_icmp_ne (tgt := 39) hx hb dX1_firstOfHandle_33 (by decide) (fun c33 => ?_) (fun c33 => ?_)
          · refine lv_iload hx hb dX1_firstOfHandle_39 (lv_at hl 0 rfl) ?_
            refine g_RSi (As := [.int (atL L j)]) (rest := []) ⟨hx, hb, hml, hown, hts⟩ (mt_X1_heightOf l dC dI cA s.heap.size (atL L j)) (va_cwS 1 hts gX1_firstOfHandle_X1_heightOf rfl rfl rfl hdX1_heightOf ⟨Nat.le_of_ble_eq_true rfl, Nat.le_of_ble_eq_true rfl⟩) hP hK hD [] (by decide) rfl rfl hl.1 rfl (Nat.le_of_ble_eq_true rfl) dX1_firstOfHandle_41 (Nat.zero_le _) (Nat.zero_le _) ?_
            refine lv_iload_n hx hb dX1_firstOfHandle_44 rfl (lv_at hl 2 rfl) ?_
            refine lv_icmp_eq (tgt := 59) hx hb dX1_firstOfHandle_45 (by decide) (fun c45 => ?_) (fun c45 => ?_)
            · refine lv_iconst (v := (-1)) hx hb dX1_firstOfHandle_59 (by decide) ?_
              exact g_endRi hx hb hr hlocks dX1_firstOfHandle_60 (by rw [← hb9]; show _ = oiI (if _ then _ else if _ then _ else _); rw [if_neg c33, if_pos (by first | exact Or.inl c45 | exact Or.inr c56)]; rfl)
            · refine lv_iload hx hb dX1_firstOfHandle_48 (lv_at hl 0 rfl) ?_
              refine g_RSi (As := [.int (atL L j)]) (rest := []) ⟨hx, hb, hml, hown, hts⟩ (mt_X1_heightOf l dC dI cA s.heap.size (atL L j)) (va_cwS 1 hts gX1_firstOfHandle_X1_heightOf rfl rfl rfl hdX1_heightOf ⟨Nat.le_of_ble_eq_true rfl, Nat.le_of_ble_eq_true rfl⟩) hP hK hD [] (by decide) rfl rfl hl.1 rfl (Nat.le_of_ble_eq_true rfl) dX1_firstOfHandle_50 (Nat.zero_le _) (Nat.zero_le _) ?_
              refine lv_iload_n hx hb dX1_firstOfHandle_53 rfl (lv_at hl 2 rfl) ?_
              refine lv_iconst (v := 1) hx hb dX1_firstOfHandle_54 (by decide) ?_
              refine lv_isub hx hb dX1_firstOfHandle_55 ?_
              refine lv_icmp_ne (tgt := 61) hx hb dX1_firstOfHandle_56 (by decide) (fun c56 => ?_) (fun c56 => ?_)
              · refine lv_iinc (v := plI j) (lv' := [(4, .int (plI j)), (5, .int (atL L j)), (3, .int (abI (atL L k))), (2, .int (atL L k)), (0, .ref h)]) hx hb dX1_firstOfHandle_61 hl (k := 1) rfl (plI_dec _) (by decide) rfl (fun ls hl => ?_)
                refine lv_goto (tgt := 16) hx hb dX1_firstOfHandle_64 (by decide) ?_
                exact ih16 j (by omega) (by rw [← hb9]; show _ = (if _ then _ else if _ then _ else _); rw [if_neg c33, if_neg (fun q => q.elim c45 c56)]) (by omega) _ (lv_sub hl [0, 2, 3, 4] rfl)
              · refine lv_iconst (v := (-1)) hx hb dX1_firstOfHandle_59 (by decide) ?_
                exact g_endRi hx hb hr hlocks dX1_firstOfHandle_60 (by rw [← hb9]; show _ = oiI (if _ then _ else if _ then _ else _); rw [if_neg c33, if_pos (by first | exact Or.inl c45 | exact Or.inr c56)]; rfl)
          · refine lv_iload hx hb dX1_firstOfHandle_36 (lv_at hl 1 rfl) ?_
            exact g_endRi hx hb hr hlocks dX1_firstOfHandle_38 (by rw [← hb9]; show _ = oiI (if _ then _ else if _ then _ else _); rw [if_pos c33]; rfl)
  exact lp16 ((k) + 1) k (Nat.le_refl _) rfl (Nat.lt_succ_self _) _ (lv_sub hl [0, 1, 2, 3] rfl)

abbrev mt_X1_lastOfFirstHandle_rm : Room := { frames := 2, cells := 0, slots := 0, locals := 46 }
set_option maxHeartbeats 4000000 in
set_option maxRecDepth 100000 in
/-- lastOfFirstHandle -/
theorem mt_X1_lastOfFirstHandle (l : Launch) (dC : Nat → ClassId) (dI : Nat → Nat → Nat) (cA : ClassId) (sz : Nat) (h : Nat) (a : Nat) (L : List Int32) (f : Nat → Int32) (fr : Nat) (hR : RI L f) (hk : fr ≤ 100) : Met l yX1_lastOfFirstHandle wsX1_lastOfFirstHandle mt_X1_lastOfFirstHandle_rm (va_Pc [.ref h, .int (nI fr)] (gB (dC, dI) [(cA, .int)] [(h, .inr (0, [.ref a, .int (nI L.length)])), (a, .inl (cA, (100, .inl f)))] sz)) (gR (some (.int (oiI (enF L fr))))) 0 0 (fun _ => False) := by
  refine g_ofR (cc := cX1_lastOfFirstHandle) (maxL := 3) (ret := (some .int)) (by decide) rfl (Nat.le_of_ble_eq_true rfl) (fun p e s m below meth c ls hx hb hr hml hts hown hlocks hP hK hl hD => ?_)
  have hS : va_S (fun _ => True) s.heap s.heap [] := va_S.rf
  have hl : lv_has ls 3 [(0, .ref h), (1, .int (nI fr))] := hl
  have hL := hR.1
  refine lv_iload_n hx hb dX1_lastOfFirstHandle_0 rfl (lv_at hl 1 rfl) ?_
  refine lv_istore_n (lv' := [(2, .int (nI fr)), (0, .ref h), (1, .int (nI fr))]) hx hb dX1_lastOfFirstHandle_1 rfl hl (by decide) rfl (fun ls hl => ?_)
  have lp2 : ∀ (d : Nat) (k : Nat) (hk1 : k ≤ 100) (hb9 : enF L k = enF L fr), 101 - k < d → ∀ ls : Array Slot, lv_has ls 3 [(2, .int (nI k)), (0, .ref h)] → W p l e mt_X1_lastOfFirstHandle_rm s m ([.ref h, .int (nI fr)] : List Value).toArray below meth c s.heap [] 0 0 (MQ below (gR (some (.int (oiI (enF L fr))))) ([.ref h, .int (nI fr)] : List Value).toArray s 0 0 (fun _ => False)) (F0 m 2 ls []) := by
    intro d
    induction d with
    | zero => intro k hk1 hb9 hd; exact absurd hd (Nat.not_lt_zero _)
    | succ d ih2 =>
      intro k hk1 hb9 hd ls hl
      refine lv_iload_n hx hb dX1_lastOfFirstHandle_2 rfl (lv_at hl 0 rfl) ?_
      refine lv_aload_n hx hb dX1_lastOfFirstHandle_3 rfl (lv_at hl 1 rfl) ?_
      refine g_RVi (As := []) (rest := [.int (nI k)]) ⟨hx, hb, hml, hown, hts⟩ (mt_X0_size l dC dI cA s.heap.size h a (nI L.length) f) (cwV 0 hts gX1_lastOfFirstHandle_X0_size rfl rfl rfl hdX0_size ⟨Nat.le_of_ble_eq_true rfl, Nat.le_of_ble_eq_true rfl⟩) hP hK hD [0, 1] (by decide) rfl (va_recv hK hP (ci := 0) (q0 := 0) rfl rfl) rfl hl.1 rfl (Nat.le_of_ble_eq_true rfl) dX1_lastOfFirstHandle_4 (Nat.zero_le _) (Nat.zero_le _) ?_
      refine lv_icmp_ge (tgt := 27) hx hb dX1_lastOfFirstHandle_7 (by decide) (fun c7 => ?_) (fun c7 => ?_)
      · have c7 : L.length ≤ k := g_geT k L.length (by omega) (by omega) c7
        refine lv_iconst (v := (-1)) hx hb dX1_lastOfFirstHandle_27 (by decide) ?_
        exact g_endRi hx hb hr hlocks dX1_lastOfFirstHandle_28 (by rw [← hb9, enF_out (by omega)]; rfl)
      · have c7 : k < L.length := g_geF k L.length (by omega) (by omega) c7
        refine lv_aload_n hx hb dX1_lastOfFirstHandle_10 rfl (lv_at hl 1 rfl) ?_
        refine lv_iload_n hx hb dX1_lastOfFirstHandle_11 rfl (lv_at hl 0 rfl) ?_
        refine g_RSi (As := [.ref h, .int (nI k)]) (rest := []) ⟨hx, hb, hml, hown, hts⟩ (mt_X1_firstOfHandle l dC dI cA s.heap.size h a L f k hR (by first | omega | (simp only [List.length_append, List.length_cons, List.length_nil, List.length_set, turnL_len]; omega))) (va_cwS 2 hts gX1_lastOfFirstHandle_X1_firstOfHandle rfl rfl rfl hdX1_firstOfHandle ⟨Nat.le_of_ble_eq_true rfl, Nat.le_of_ble_eq_true rfl⟩) hP hK hD [0, 1] (by decide) rfl rfl hl.1 rfl (Nat.le_of_ble_eq_true rfl) dX1_lastOfFirstHandle_12 (Nat.zero_le _) (Nat.zero_le _) ?_
        refine lv_iconst (v := (-1)) hx hb dX1_lastOfFirstHandle_15 (by decide) ?_
        refine lv_icmp_eq (tgt := 21) hx hb dX1_lastOfFirstHandle_16 (by decide) (fun c16 => ?_) (fun c16 => ?_)
        · have c16 : bg L k = none := oiI_no (bg_small (by omega)) c16
          refine lv_iinc (v := nI (k + 1)) (lv' := [(2, .int (nI (k + 1))), (0, .ref h)]) hx hb dX1_lastOfFirstHandle_21 hl (k := 0) rfl (g_inc _) (by decide) rfl (fun ls hl => ?_)
          refine lv_goto (tgt := 2) hx hb dX1_lastOfFirstHandle_24 (by decide) ?_
          exact ih2 (k + 1) (by omega) (by rw [← hb9, enF_none (by omega) c16]) (by omega) _ (lv_sub hl [0, 1] rfl)
        · obtain ⟨b, c16⟩ := oiI_yes c16
          refine lv_iload_n hx hb dX1_lastOfFirstHandle_19 rfl (lv_at hl 0 rfl) ?_
          exact g_endRi hx hb hr hlocks dX1_lastOfFirstHandle_20 (by rw [← hb9, enF_some (by omega) c16]; rfl)
  exact lp2 ((101 - fr) + 1) fr hk rfl (Nat.lt_succ_self _) _ (lv_sub hl [0, 1] rfl)

abbrev mt_X1_moreByCutting_rm : Room := { frames := 1, cells := 0, slots := 0, locals := 21 }
set_option maxHeartbeats 4000000 in
set_option maxRecDepth 100000 in
/-- moreByCutting -/
theorem mt_X1_moreByCutting (l : Launch) (dC : Nat → ClassId) (dI : Nat → Nat → Nat) (cA : ClassId) (sz : Nat) (h : Nat) (a : Nat) (L : List Int32) (f : Nat → Int32) (b : Nat) (e9 : Nat) (hR : RI L f) (hk : b < e9) (hk2 : e9 ≤ 100) : Met l yX1_moreByCutting wsX1_moreByCutting mt_X1_moreByCutting_rm (va_Pc [.ref h, .int (nI b), .int (nI e9)] (gB (dC, dI) [(cA, .int)] [(h, .inr (0, [.ref a, .int (nI L.length)])), (a, .inl (cA, (100, .inl f)))] sz)) (gR (some (.int (moI (cnL L b (e9 - (b + 1))))))) 0 0 (fun _ => False) := by
  refine g_ofR (cc := cX1_moreByCutting) (maxL := 6) (ret := (some .int)) (by decide) rfl (Nat.le_of_ble_eq_true rfl) (fun p e s m below meth c ls hx hb hr hml hts hown hlocks hP hK hl hD => ?_)
  have hS : va_S (fun _ => True) s.heap s.heap [] := va_S.rf
  have hl : lv_has ls 6 [(0, .ref h), (1, .int (nI b)), (2, .int (nI e9))] := hl
  have hL := hR.1
  refine lv_aload_n hx hb dX1_moreByCutting_0 rfl (lv_at hl 0 rfl) ?_
  refine lv_iload_n hx hb dX1_moreByCutting_1 rfl (lv_at hl 1 rfl) ?_
  refine g_RVi (As := [.int (nI b)]) (rest := []) ⟨hx, hb, hml, hown, hts⟩ (mt_X0_at l dC dI cA s.heap.size h a L f b hR (by first | omega | (simp only [List.length_append, List.length_cons, List.length_nil, List.length_set, turnL_len]; omega))) (cwV 1 hts gX1_moreByCutting_X0_at rfl rfl rfl hdX0_at ⟨Nat.le_of_ble_eq_true rfl, Nat.le_of_ble_eq_true rfl⟩) hP hK hD [0, 1] (by decide) rfl (va_recv hK hP (ci := 0) (q0 := 0) rfl rfl) rfl hl.1 rfl (Nat.le_of_ble_eq_true rfl) dX1_moreByCutting_2 (Nat.zero_le _) (Nat.zero_le _) ?_
  refine g_RSi (As := [.int (atL L b)]) (rest := []) ⟨hx, hb, hml, hown, hts⟩ (mt_X1_heightOf l dC dI cA s.heap.size (atL L b)) (va_cwS 1 hts gX1_moreByCutting_X1_heightOf rfl rfl rfl hdX1_heightOf ⟨Nat.le_of_ble_eq_true rfl, Nat.le_of_ble_eq_true rfl⟩) hP hK hD [] (by decide) rfl rfl hl.1 rfl (Nat.le_of_ble_eq_true rfl) dX1_moreByCutting_5 (Nat.zero_le _) (Nat.zero_le _) ?_
  refine lv_iconst (v := 1) hx hb dX1_moreByCutting_8 (by decide) ?_
  refine lv_iadd hx hb dX1_moreByCutting_9 ?_
  refine lv_istore_n (lv' := [(3, .int ((abI (atL L b)) + 1)), (0, .ref h), (1, .int (nI b)), (2, .int (nI e9))]) hx hb dX1_moreByCutting_10 rfl hl (by decide) rfl (fun ls hl => ?_)
  refine lv_bipush (v := (-2)) hx hb dX1_moreByCutting_11 (by decide) ?_
  refine lv_istore (lv' := [(4, .int (-2)), (3, .int ((abI (atL L b)) + 1)), (0, .ref h), (1, .int (nI b)), (2, .int (nI e9))]) hx hb dX1_moreByCutting_13 hl (by decide) rfl (fun ls hl => ?_)
  refine lv_iload_n hx hb dX1_moreByCutting_15 rfl (lv_at hl 3 rfl) ?_
  refine lv_iconst (v := 1) hx hb dX1_moreByCutting_16 (by decide) ?_
  refine lv_iadd hx hb dX1_moreByCutting_17 ?_
  rw [show (nI b) + 1 = nI (b + 1) from nI_add b 1]
  refine lv_istore (lv' := [(5, .int (nI (b + 1))), (4, .int (-2)), (3, .int ((abI (atL L b)) + 1)), (0, .ref h), (1, .int (nI b)), (2, .int (nI e9))]) hx hb dX1_moreByCutting_18 hl (by decide) rfl (fun ls hl => ?_)
  rw [← moI_0] at hl
  have hl : lv_has ls 6 [(5, .int (nI (b + 1))), (4, .int (moI (cnL L b 0))), (3, .int ((abI (atL L b)) + 1)), (0, .ref h), (1, .int (nI b)), (2, .int (nI e9))] := hl
  have lp20 : ∀ (d : Nat) (j : Nat) (hj : b + 1 + j ≤ e9), e9 - j < d → ∀ ls : Array Slot, lv_has ls 6 [(5, .int (nI (b + 1 + j))), (4, .int (moI (cnL L b j))), (3, .int (abI (atL L b) + 1)), (0, .ref h), (2, .int (nI e9))] → W p l e mt_X1_moreByCutting_rm s m ([.ref h, .int (nI b), .int (nI e9)] : List Value).toArray below meth c s.heap [] 0 0 (MQ below (gR (some (.int (moI (cnL L b (e9 - (b + 1))))))) ([.ref h, .int (nI b), .int (nI e9)] : List Value).toArray s 0 0 (fun _ => False)) (F0 m 20 ls []) := by
    intro d
    induction d with
    | zero => intro j hj hd; exact absurd hd (Nat.not_lt_zero _)
    | succ d ih20 =>
      intro j hj hd ls hl
      refine lv_iload hx hb dX1_moreByCutting_20 (lv_at hl 0 rfl) ?_
      refine lv_iload_n hx hb dX1_moreByCutting_22 rfl (lv_at hl 4 rfl) ?_
      refine lv_icmp_ge (tgt := 48) hx hb dX1_moreByCutting_23 (by decide) (fun c23 => ?_) (fun c23 => ?_)
      · have c23 : e9 ≤ (b + 1 + j) := g_geT (b + 1 + j) e9 (by omega) (by omega) c23
        refine lv_iload hx hb dX1_moreByCutting_48 (lv_at hl 1 rfl) ?_
        exact g_endRi hx hb hr hlocks dX1_moreByCutting_50 (by rw [show j = e9 - (b + 1) by omega])
      · have c23 : (b + 1 + j) < e9 := g_geF (b + 1 + j) e9 (by omega) (by omega) c23
        refine lv_aload_n hx hb dX1_moreByCutting_26 rfl (lv_at hl 3 rfl) ?_
        refine lv_iload hx hb dX1_moreByCutting_27 (lv_at hl 0 rfl) ?_
        refine g_RVi (As := [.int (nI (b + 1 + j))]) (rest := []) ⟨hx, hb, hml, hown, hts⟩ (mt_X0_at l dC dI cA s.heap.size h a L f (b + 1 + j) hR (by first | omega | (simp only [List.length_append, List.length_cons, List.length_nil, List.length_set, turnL_len]; omega))) (cwV 1 hts gX1_moreByCutting_X0_at rfl rfl rfl hdX0_at ⟨Nat.le_of_ble_eq_true rfl, Nat.le_of_ble_eq_true rfl⟩) hP hK hD [0, 1] (by decide) rfl (va_recv hK hP (ci := 0) (q0 := 0) rfl rfl) rfl hl.1 rfl (Nat.le_of_ble_eq_true rfl) dX1_moreByCutting_29 (Nat.zero_le _) (Nat.zero_le _) ?_
        refine g_RSi (As := [.int (atL L (b + 1 + j))]) (rest := []) ⟨hx, hb, hml, hown, hts⟩ (mt_X1_heightOf l dC dI cA s.heap.size (atL L (b + 1 + j))) (va_cwS 1 hts gX1_moreByCutting_X1_heightOf rfl rfl rfl hdX1_heightOf ⟨Nat.le_of_ble_eq_true rfl, Nat.le_of_ble_eq_true rfl⟩) hP hK hD [] (by decide) rfl rfl hl.1 rfl (Nat.le_of_ble_eq_true rfl) dX1_moreByCutting_32 (Nat.zero_le _) (Nat.zero_le _) ?_
        refine lv_iload_n hx hb dX1_moreByCutting_35 rfl (lv_at hl 2 rfl) ?_
        refine lv_icmp_ne (tgt := 42) hx hb dX1_moreByCutting_36 (by decide) (fun c36 => ?_) (fun c36 => ?_)
        · rw [show cnL L b j = cnL L b (j + 1) from by show _ = _ + _; rw [if_neg c36, Nat.add_zero]] at hl
          refine lv_iinc (v := nI (b + 1 + j + 1)) (lv' := [(5, .int (nI (b + 1 + j + 1))), (4, .int (moI (cnL L b (j + 1)))), (3, .int (abI (atL L b) + 1)), (0, .ref h), (2, .int (nI e9))]) hx hb dX1_moreByCutting_42 hl (k := 0) rfl (g_inc _) (by decide) rfl (fun ls hl => ?_)
          refine lv_goto (tgt := 20) hx hb dX1_moreByCutting_45 (by decide) ?_
          exact ih20 (j + 1) (by omega) (by omega) _ (lv_sub hl [0, 1, 2, 3, 4] rfl)
        · refine lv_iinc (v := moI (cnL L b j + 1)) (lv' := [(4, .int (moI (cnL L b j + 1))), (5, .int (nI (b + 1 + j))), (3, .int (abI (atL L b) + 1)), (0, .ref h), (2, .int (nI e9))]) hx hb dX1_moreByCutting_39 hl (k := 1) rfl (moI_1 _) (by decide) rfl (fun ls hl => ?_)
          rw [show cnL L b j + 1 = cnL L b (j + 1) from by show _ = _ + _; rw [if_pos c36]] at hl
          refine lv_iinc (v := nI (b + 1 + j + 1)) (lv' := [(5, .int (nI (b + 1 + j + 1))), (4, .int (moI (cnL L b (j + 1)))), (3, .int (abI (atL L b) + 1)), (0, .ref h), (2, .int (nI e9))]) hx hb dX1_moreByCutting_42 hl (k := 1) rfl (g_inc _) (by decide) rfl (fun ls hl => ?_)
          refine lv_goto (tgt := 20) hx hb dX1_moreByCutting_45 (by decide) ?_
          exact ih20 (j + 1) (by omega) (by omega) _ (lv_sub hl [0, 1, 2, 3, 4] rfl)
  exact lp20 ((e9 - 0) + 1) 0 (by omega) (Nat.lt_succ_self _) _ (lv_sub hl [0, 1, 2, 3, 5] rfl)

abbrev mt_X1_lowestLetter_rm : Room := { frames := 1, cells := 0, slots := 0, locals := 21 }
set_option maxHeartbeats 4000000 in
set_option maxRecDepth 100000 in
/-- lowestLetter -/
theorem mt_X1_lowestLetter (l : Launch) (dC : Nat → ClassId) (dI : Nat → Nat → Nat) (cA : ClassId) (sz : Nat) (h : Nat) (a : Nat) (L : List Int32) (f : Nat → Int32) (hR : RI L f) : Met l yX1_lowestLetter wsX1_lowestLetter mt_X1_lowestLetter_rm (va_Pc [.ref h] (gB (dC, dI) [(cA, .int)] [(h, .inr (0, [.ref a, .int (nI L.length)])), (a, .inl (cA, (100, .inl f)))] sz)) (gR (some (.int (loL L (L.length - 1))))) 0 0 (fun _ => False) := by
  refine g_ofR (cc := cX1_lowestLetter) (maxL := 3) (ret := (some .int)) (by decide) rfl (Nat.le_of_ble_eq_true rfl) (fun p e s m below meth c ls hx hb hr hml hts hown hlocks hP hK hl hD => ?_)
  have hS : va_S (fun _ => True) s.heap s.heap [] := va_S.rf
  have hl : lv_has ls 3 [(0, .ref h)] := hl
  have hL := hR.1
  refine lv_aload_n hx hb dX1_lowestLetter_0 rfl (lv_at hl 0 rfl) ?_
  refine lv_iconst (v := 0) hx hb dX1_lowestLetter_1 (by decide) ?_
  refine g_RVi (As := [.int 0]) (rest := []) ⟨hx, hb, hml, hown, hts⟩ (mt_X0_at l dC dI cA s.heap.size h a L f 0 hR (by first | omega | (simp only [List.length_append, List.length_cons, List.length_nil, List.length_set, turnL_len]; omega))) (cwV 1 hts gX1_lowestLetter_X0_at rfl rfl rfl hdX0_at ⟨Nat.le_of_ble_eq_true rfl, Nat.le_of_ble_eq_true rfl⟩) hP hK hD [0, 1] (by decide) rfl (va_recv hK hP (ci := 0) (q0 := 0) rfl rfl) rfl hl.1 rfl (Nat.le_of_ble_eq_true rfl) dX1_lowestLetter_2 (Nat.zero_le _) (Nat.zero_le _) ?_
  refine lv_istore_n (lv' := [(1, .int (atL L 0)), (0, .ref h)]) hx hb dX1_lowestLetter_5 rfl hl (by decide) rfl (fun ls hl => ?_)
  refine lv_iconst (v := 1) hx hb dX1_lowestLetter_6 (by decide) ?_
  refine lv_istore_n (lv' := [(2, .int 1), (1, .int (atL L 0)), (0, .ref h)]) hx hb dX1_lowestLetter_7 rfl hl (by decide) rfl (fun ls hl => ?_)
  have lp8 : ∀ (d : Nat) (k : Nat) (hk : k ≤ L.length - 1), L.length - k < d → ∀ ls : Array Slot, lv_has ls 3 [(2, .int (nI (k + 1))), (1, .int (loL L k)), (0, .ref h)] → W p l e mt_X1_lowestLetter_rm s m ([.ref h] : List Value).toArray below meth c s.heap [] 0 0 (MQ below (gR (some (.int (loL L (L.length - 1))))) ([.ref h] : List Value).toArray s 0 0 (fun _ => False)) (F0 m 8 ls []) := by
    intro d
    induction d with
    | zero => intro k hk hd; exact absurd hd (Nat.not_lt_zero _)
    | succ d ih8 =>
      intro k hk hd ls hl
      refine lv_iload_n hx hb dX1_lowestLetter_8 rfl (lv_at hl 0 rfl) ?_
      refine lv_aload_n hx hb dX1_lowestLetter_9 rfl (lv_at hl 2 rfl) ?_
      refine g_RVi (As := []) (rest := [.int (nI (k + 1))]) ⟨hx, hb, hml, hown, hts⟩ (mt_X0_size l dC dI cA s.heap.size h a (nI L.length) f) (cwV 0 hts gX1_lowestLetter_X0_size rfl rfl rfl hdX0_size ⟨Nat.le_of_ble_eq_true rfl, Nat.le_of_ble_eq_true rfl⟩) hP hK hD [0, 1] (by decide) rfl (va_recv hK hP (ci := 0) (q0 := 0) rfl rfl) rfl hl.1 rfl (Nat.le_of_ble_eq_true rfl) dX1_lowestLetter_10 (Nat.zero_le _) (Nat.zero_le _) ?_
      refine lv_icmp_ge (tgt := 43) hx hb dX1_lowestLetter_13 (by decide) (fun c13 => ?_) (fun c13 => ?_)
      · have c13 : L.length ≤ (k + 1) := g_geT (k + 1) L.length (by omega) (by omega) c13
        refine lv_iload_n hx hb dX1_lowestLetter_43 rfl (lv_at hl 1 rfl) ?_
        exact g_endRi hx hb hr hlocks dX1_lowestLetter_44 (by rw [show k = L.length - 1 by omega])
      · have c13 : (k + 1) < L.length := g_geF (k + 1) L.length (by omega) (by omega) c13
        refine lv_aload_n hx hb dX1_lowestLetter_16 rfl (lv_at hl 2 rfl) ?_
        refine lv_iload_n hx hb dX1_lowestLetter_17 rfl (lv_at hl 0 rfl) ?_
        refine g_RVi (As := [.int (nI (k + 1))]) (rest := []) ⟨hx, hb, hml, hown, hts⟩ (mt_X0_at l dC dI cA s.heap.size h a L f (k + 1) hR (by first | omega | (simp only [List.length_append, List.length_cons, List.length_nil, List.length_set, turnL_len]; omega))) (cwV 1 hts gX1_lowestLetter_X0_at rfl rfl rfl hdX0_at ⟨Nat.le_of_ble_eq_true rfl, Nat.le_of_ble_eq_true rfl⟩) hP hK hD [0, 1] (by decide) rfl (va_recv hK hP (ci := 0) (q0 := 0) rfl rfl) rfl hl.1 rfl (Nat.le_of_ble_eq_true rfl) dX1_lowestLetter_18 (Nat.zero_le _) (Nat.zero_le _) ?_
        refine g_RSi (As := [.int (atL L (k + 1))]) (rest := []) ⟨hx, hb, hml, hown, hts⟩ (mt_X1_heightOf l dC dI cA s.heap.size (atL L (k + 1))) (va_cwS 1 hts gX1_lowestLetter_X1_heightOf rfl rfl rfl hdX1_heightOf ⟨Nat.le_of_ble_eq_true rfl, Nat.le_of_ble_eq_true rfl⟩) hP hK hD [] (by decide) rfl rfl hl.1 rfl (Nat.le_of_ble_eq_true rfl) dX1_lowestLetter_21 (Nat.zero_le _) (Nat.zero_le _) ?_
        refine lv_iload_n hx hb dX1_lowestLetter_24 rfl (lv_at hl 1 rfl) ?_
        refine g_RSi (As := [.int (loL L k)]) (rest := [.int (abI (atL L (k + 1)))]) ⟨hx, hb, hml, hown, hts⟩ (mt_X1_heightOf l dC dI cA s.heap.size (loL L k)) (va_cwS 1 hts gX1_lowestLetter_X1_heightOf rfl rfl rfl hdX1_heightOf ⟨Nat.le_of_ble_eq_true rfl, Nat.le_of_ble_eq_true rfl⟩) hP hK hD [] (by decide) rfl rfl hl.1 rfl (Nat.le_of_ble_eq_true rfl) dX1_lowestLetter_25 (Nat.zero_le _) (Nat.zero_le _) ?_
        refine lv_icmp_ge (tgt := 37) hx hb dX1_lowestLetter_28 (by decide) (fun c28 => ?_) (fun c28 => ?_)
        · rw [show loL L k = loL L (k + 1) from by show _ = (if _ then _ else _); rw [if_neg (Int32.not_lt.mpr c28)]] at hl
          refine lv_iinc (v := nI (k + 1 + 1)) (lv' := [(2, .int (nI (k + 1 + 1))), (1, .int (loL L (k + 1))), (0, .ref h)]) hx hb dX1_lowestLetter_37 hl (k := 0) rfl (g_inc _) (by decide) rfl (fun ls hl => ?_)
          refine lv_goto (tgt := 8) hx hb dX1_lowestLetter_40 (by decide) ?_
          exact ih8 (k + 1) (by omega) (by omega) _ (lv_sub hl [0, 1, 2] rfl)
        · refine lv_aload_n hx hb dX1_lowestLetter_31 rfl (lv_at hl 2 rfl) ?_
          refine lv_iload_n hx hb dX1_lowestLetter_32 rfl (lv_at hl 0 rfl) ?_
          refine g_RVi (As := [.int (nI (k + 1))]) (rest := []) ⟨hx, hb, hml, hown, hts⟩ (mt_X0_at l dC dI cA s.heap.size h a L f (k + 1) hR (by first | omega | (simp only [List.length_append, List.length_cons, List.length_nil, List.length_set, turnL_len]; omega))) (cwV 1 hts gX1_lowestLetter_X0_at rfl rfl rfl hdX0_at ⟨Nat.le_of_ble_eq_true rfl, Nat.le_of_ble_eq_true rfl⟩) hP hK hD [0, 1] (by decide) rfl (va_recv hK hP (ci := 0) (q0 := 0) rfl rfl) rfl hl.1 rfl (Nat.le_of_ble_eq_true rfl) dX1_lowestLetter_33 (Nat.zero_le _) (Nat.zero_le _) ?_
          refine lv_istore_n (lv' := [(1, .int (atL L (k + 1))), (2, .int (nI (k + 1))), (0, .ref h)]) hx hb dX1_lowestLetter_36 rfl hl (by decide) rfl (fun ls hl => ?_)
          rw [show atL L (k + 1) = loL L (k + 1) from by show _ = (if _ then _ else _); rw [if_pos (Int32.not_le.mp c28)]] at hl
          refine lv_iinc (v := nI (k + 1 + 1)) (lv' := [(2, .int (nI (k + 1 + 1))), (1, .int (loL L (k + 1))), (0, .ref h)]) hx hb dX1_lowestLetter_37 hl (k := 1) rfl (g_inc _) (by decide) rfl (fun ls hl => ?_)
          refine lv_goto (tgt := 8) hx hb dX1_lowestLetter_40 (by decide) ?_
          exact ih8 (k + 1) (by omega) (by omega) _ (lv_sub hl [0, 1, 2] rfl)
  exact lp8 ((L.length - 0) + 1) 0 (Nat.zero_le _) (Nat.lt_succ_self _) _ (lv_sub hl [0, 1, 2] rfl)

abbrev mt_X1_handleAnswer_rm : Room := { frames := 3, cells := 0, slots := 0, locals := 68 }
set_option maxHeartbeats 4000000 in
set_option maxRecDepth 100000 in
/-- handleAnswer -/
theorem mt_X1_handleAnswer (l : Launch) (dC : Nat → ClassId) (dI : Nat → Nat → Nat) (cA : ClassId) (sz : Nat) (h : Nat) (a : Nat) (L : List Int32) (f : Nat → Int32) (q : Nat) (hR : RI L f) (hq : q < 3) : Met l yX1_handleAnswer wsX1_handleAnswer mt_X1_handleAnswer_rm (va_Pc [.ref h, .int (nI q)] (gB (dC, dI) [(cA, .int)] [(h, .inr (0, [.ref a, .int (nI L.length)])), (a, .inl (cA, (100, .inl f)))] sz)) (gR (some (.int (haL L q)))) 0 0 (fun _ => False) := by
  refine g_ofR (cc := cX1_handleAnswer) (maxL := 4) (ret := (some .int)) (by decide) rfl (Nat.le_of_ble_eq_true rfl) (fun p e s m below meth c ls hx hb hr hml hts hown hlocks hP hK hl hD => ?_)
  have hS : va_S (fun _ => True) s.heap s.heap [] := va_S.rf
  have hl : lv_has ls 4 [(0, .ref h), (1, .int (nI q))] := hl
  have hL := hR.1
  refine lv_aload_n hx hb dX1_handleAnswer_0 rfl (lv_at hl 0 rfl) ?_
  refine lv_iconst (v := 0) hx hb dX1_handleAnswer_1 (by decide) ?_
  refine g_RSi (As := [.ref h, .int 0]) (rest := []) ⟨hx, hb, hml, hown, hts⟩ (mt_X1_lastOfFirstHandle l dC dI cA s.heap.size h a L f 0 hR (by first | omega | (simp only [List.length_append, List.length_cons, List.length_nil, List.length_set, turnL_len]; omega))) (va_cwS 2 hts gX1_handleAnswer_X1_lastOfFirstHandle rfl rfl rfl hdX1_lastOfFirstHandle ⟨Nat.le_of_ble_eq_true rfl, Nat.le_of_ble_eq_true rfl⟩) hP hK hD [0, 1] (by decide) rfl rfl hl.1 rfl (Nat.le_of_ble_eq_true rfl) dX1_handleAnswer_2 (Nat.zero_le _) (Nat.zero_le _) ?_
  refine lv_istore_n (lv' := [(2, .int (oiI (enF L 0))), (0, .ref h), (1, .int (nI q))]) hx hb dX1_handleAnswer_5 rfl hl (by decide) rfl (fun ls hl => ?_)
  refine lv_iload_n hx hb dX1_handleAnswer_6 rfl (lv_at hl 0 rfl) ?_
  refine lv_iconst (v := (-1)) hx hb dX1_handleAnswer_7 (by decide) ?_
  refine lv_icmp_ne (tgt := 22) hx hb dX1_handleAnswer_8 (by decide) (fun c8 => ?_) (fun c8 => ?_)
  · obtain ⟨e9, c8⟩ := oiI_yes c8
    obtain ⟨-, he2, ⟨b9, hb9⟩, -⟩ := enF_spec c8
    have hbl := bg_lt hb9
    rw [show oiI (enF L 0) = nI e9 from by rw [c8]; rfl] at hl
    refine lv_aload_n hx hb dX1_handleAnswer_22 rfl (lv_at hl 1 rfl) ?_
    refine lv_iload_n hx hb dX1_handleAnswer_23 rfl (lv_at hl 0 rfl) ?_
    refine g_RSi (As := [.ref h, .int (nI e9)]) (rest := []) ⟨hx, hb, hml, hown, hts⟩ (mt_X1_firstOfHandle l dC dI cA s.heap.size h a L f e9 hR (by first | omega | (simp only [List.length_append, List.length_cons, List.length_nil, List.length_set, turnL_len]; omega))) (va_cwS 2 hts gX1_handleAnswer_X1_firstOfHandle rfl rfl rfl hdX1_firstOfHandle ⟨Nat.le_of_ble_eq_true rfl, Nat.le_of_ble_eq_true rfl⟩) hP hK hD [0, 1] (by decide) rfl rfl hl.1 rfl (Nat.le_of_ble_eq_true rfl) dX1_handleAnswer_24 (Nat.zero_le _) (Nat.zero_le _) ?_
    rw [show oiI (bg L e9) = nI b9 from by rw [hb9]; rfl]
    refine lv_istore_n (lv' := [(3, .int (nI b9)), (2, .int (nI e9)), (0, .ref h), (1, .int (nI q))]) hx hb dX1_handleAnswer_27 rfl hl (by decide) rfl (fun ls hl => ?_)
    obtain rfl | rfl | rfl : q = 0 ∨ q = 1 ∨ q = 2 := by omega
    · refine lv_iload_n hx hb dX1_handleAnswer_28 rfl (lv_at hl 3 rfl) ?_
      refine lv_lookup (off := 27) (tgt := 56) hx hb dX1_handleAnswer_29 (by decide) (by decide) (by decide) ?_
      refine lv_iload_n hx hb dX1_handleAnswer_56 rfl (lv_at hl 0 rfl) ?_
      exact g_endRi hx hb hr hlocks dX1_handleAnswer_57 (by unfold haL; rw [c8]; show _ = (match bg L e9 with | none => _ | some b => _); rw [hb9]; rfl)
    · refine lv_iload_n hx hb dX1_handleAnswer_28 rfl (lv_at hl 3 rfl) ?_
      refine lv_lookup (off := 29) (tgt := 58) hx hb dX1_handleAnswer_29 (by decide) (by decide) (by decide) ?_
      refine lv_iload_n hx hb dX1_handleAnswer_58 rfl (lv_at hl 1 rfl) ?_
      exact g_endRi hx hb hr hlocks dX1_handleAnswer_59 (by unfold haL; rw [c8]; show _ = (match bg L e9 with | none => _ | some b => _); rw [hb9]; rfl)
    · refine lv_iload_n hx hb dX1_handleAnswer_28 rfl (lv_at hl 3 rfl) ?_
      refine lv_lookup (off := 31) (tgt := 60) hx hb dX1_handleAnswer_29 (by decide) (by decide) (by decide) ?_
      refine lv_aload_n hx hb dX1_handleAnswer_60 rfl (lv_at hl 2 rfl) ?_
      refine lv_iload_n hx hb dX1_handleAnswer_61 rfl (lv_at hl 0 rfl) ?_
      refine lv_iload_n hx hb dX1_handleAnswer_62 rfl (lv_at hl 1 rfl) ?_
      refine g_RSi (As := [.ref h, .int (nI b9), .int (nI e9)]) (rest := []) ⟨hx, hb, hml, hown, hts⟩ (mt_X1_moreByCutting l dC dI cA s.heap.size h a L f b9 e9 hR (by first | omega | (simp only [List.length_append, List.length_cons, List.length_nil, List.length_set, turnL_len]; omega)) (by first | omega | (simp only [List.length_append, List.length_cons, List.length_nil, List.length_set, turnL_len]; omega))) (va_cwS 3 hts gX1_handleAnswer_X1_moreByCutting rfl rfl rfl hdX1_moreByCutting ⟨Nat.le_of_ble_eq_true rfl, Nat.le_of_ble_eq_true rfl⟩) hP hK hD [0, 1] (by decide) rfl rfl hl.1 rfl (Nat.le_of_ble_eq_true rfl) dX1_handleAnswer_63 (Nat.zero_le _) (Nat.zero_le _) ?_
      exact g_endRi hx hb hr hlocks dX1_handleAnswer_66 (by unfold haL; rw [c8]; show _ = (match bg L e9 with | none => _ | some b => _); rw [hb9]; rfl)
  · have c8 : enF L 0 = none := oiI_no (enF_small (by omega)) c8
    refine lv_iload_n hx hb dX1_handleAnswer_11 rfl (lv_at hl 2 rfl) ?_
    refine lv_iconst (v := 2) hx hb dX1_handleAnswer_12 (by decide) ?_
    refine lv_icmp_ne (tgt := 20) hx hb dX1_handleAnswer_13 (by decide) (fun c13 => ?_) (fun c13 => ?_)
    · have c13 : ¬ q = 2 := g_neT q 2 (by omega) (by omega) c13
      refine lv_iconst (v := (-1)) hx hb dX1_handleAnswer_20 (by decide) ?_
      exact g_endRi hx hb hr hlocks dX1_handleAnswer_21 (by unfold haL; rw [c8]; first | (rw [if_pos (by omega)]) | (rw [if_neg (by omega)]))
    · have c13 : q = 2 := g_neF q 2 (by omega) (by omega) c13
      refine lv_iconst (v := 0) hx hb dX1_handleAnswer_16 (by decide) ?_
      refine lv_goto (tgt := 21) hx hb dX1_handleAnswer_17 (by decide) ?_
      exact g_endRi hx hb hr hlocks dX1_handleAnswer_21 (by unfold haL; rw [c8]; first | (rw [if_pos (by omega)]) | (rw [if_neg (by omega)]))

abbrev mt_X1_digested_rm : Room := { frames := 0, cells := 0, slots := 0, locals := 0 }