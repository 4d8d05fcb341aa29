/-! 67: what the law chooses by -/
theorem hdL_below : yL_below.cls ≠ "java/lang/invoke/MethodHandle" ∧ yL_below.cls ≠ "java/lang/invoke/VarHandle" ∧ (parseMethodDescriptor yL_below.desc).map (fun d => d.parameters.length) = some 2 := by decide +kernel
abbrev mt_L_below_rm : Room := { frames := 0, cells := 0, slots := 0, locals := 0 }
set_option maxHeartbeats 4000000 in
set_option maxRecDepth 100000 in
/-- below -/
theorem mt_L_below (l : Launch) (dC : Nat → ClassId) (dI : Nat → Nat → Nat) (cA : ClassId) (sz : Nat) (v9 : Int32) (n9 : Nat) (hn : 0 < n9) (hn2 : n9 < 2 ^ 31) : Met l yL_below wsL_below mt_L_below_rm (va_Pc [.int v9, .int (nI n9)] (gB (dC, dI) [(cA, .int)] [] sz)) (gR (some (.int (nI (blN v9 n9))))) 0 0 (fun _ => False) := by
  refine g_ofR (cc := cL_below) (maxL := 2) (ret := (some .int)) (by decide) rfl (Nat.le_of_ble_eq_true rfl) (fun p e s m below meth c ls hx hb hr hml hts hown hlocks hP hK hl hD => ?_)
  have hS : va_S (fun _ => True) s.heap s.heap [] := va_S.rf
  have hl : lv_has ls 2 [(0, .int v9), (1, .int (nI n9))] := hl
  refine lv_iload_n hx hb dL_below_0 rfl (lv_at hl 0 rfl) ?_
  refine lv_ldc hx hb hown (hts (.constant RL 7 (2147483647)) (List.mem_of_getElem? (i := 1) rfl)) dL_below_1 ?_
  refine lv_iand hx hb dL_below_3 ?_
  refine lv_iload_n hx hb dL_below_4 rfl (lv_at hl 1 rfl) ?_
  refine lv_irem hx hb dL_below_5 (nI_ne0 (by omega) (by omega)) ?_
  exact g_endRi hx hb hr hlocks dL_below_6 (bl_val hn hn2)

abbrev mt_L_cell_rm : Room := { frames := 0, cells := 0, slots := 0, locals := 0 }
set_option maxHeartbeats 4000000 in
set_option maxRecDepth 100000 in
/-- cell -/
theorem mt_L_cell (l : Launch) (dC : Nat → ClassId) (dI : Nat → Nat → Nat) (cA : ClassId) (sz : Nat) (b9 : Nat) (LL : Nat) (xs : Nat → Int32) (k : Nat) (hLL : LL ≤ 1000) (hk : k < 1000) : Met l yL_cell wsL_cell mt_L_cell_rm (va_Pc [.ref b9, .int (nI k)] (gBX (xS b9 LL xs) (dC, dI) [(cA, .int)] [] sz)) (gR (some (.int (ceV LL xs k)))) 0 0 (fun _ => False) := by
  refine g_ofRX (cc := cL_cell) (maxL := 2) (ret := (some .int)) (by decide) rfl (Nat.le_of_ble_eq_true rfl) (fun p e s m below meth c ls hx hb hr hml hts hown hlocks hP hK hl A hD hS hXX => ?_)
  have hl : lv_has ls 2 [(0, .ref b9), (1, .int (nI k))] := hl
  refine lv_iload_n hx hb dL_cell_0 rfl (lv_at hl 1 rfl) ?_
  refine lv_aload_n hx hb dL_cell_1 rfl (lv_at hl 0 rfl) ?_
  refine va_slen hx hb hXX.1 hXX.2.1 hXX.2.2 hS dL_cell_2 ?_
  refine lv_icmp_ge (tgt := 12) hx hb dL_cell_3 (by decide) (fun c3 => ?_) (fun c3 => ?_)
  · have c3 : LL ≤ k := g_geT k LL (by omega) (by omega) c3
    refine lv_ldc hx hb hown (hts (.constant RL 8 (790386105)) (List.mem_of_getElem? (i := 1) rfl)) dL_cell_12 ?_
    refine lv_iload_n hx hb dL_cell_14 rfl (lv_at hl 1 rfl) ?_
    refine lv_iconst (v := 3) hx hb dL_cell_15 (by decide) ?_
    refine lv_iadd hx hb dL_cell_16 ?_
    rw [show ((nI k) + 3 : Int32) = nI (k + 3) from nI_add k 3]
    refine lv_imul hx hb dL_cell_17 ?_
    rw [show ((790386105 : Int32) * (nI (k + 3)) : Int32) = nI (790386105 * (k + 3)) from pk_mul 790386105 (k + 3)]
    exact g_endRi hx hb hr hlocks dL_cell_18 ((if_neg (by omega)).symm)
  · have c3 : k < LL := g_geF k LL (by omega) (by omega) c3
    refine lv_aload_n hx hb dL_cell_6 rfl (lv_at hl 0 rfl) ?_
    refine lv_iload_n hx hb dL_cell_7 rfl (lv_at hl 1 rfl) ?_
    refine va_sld hx hb hXX.1 hXX.2.1 hXX.2.2 hS (vp_in_nI (by omega) (by omega)) dL_cell_8 ?_
    rw [show (nI k).toNatClampNeg = k from nI_clamp (by omega)]
    refine lv_goto (tgt := 18) hx hb dL_cell_9 (by decide) ?_
    exact g_endRi hx hb hr hlocks dL_cell_18 ((if_pos c3).symm)

abbrev mt_L_some_rm : Room := { frames := 1, cells := 0, slots := 0, locals := 21 }
set_option maxHeartbeats 4000000 in
set_option maxRecDepth 100000 in
/-- some -/
theorem mt_L_some (l : Launch) (dC : Nat → ClassId) (dI : Nat → Nat → Nat) (cA : ClassId) (sz : Nat) (x9 : Int32) (rn : Nat) (h3 : 3 ≤ rn) (h6 : rn ≤ 6) : Met l yL_some wsL_some mt_L_some_rm (va_Pc [.int x9, .int (nI rn)] (gB (dC, dI) [(cA, .int)] [] sz)) (gR (some (.int (smL x9 rn)))) 0 0 (fun _ => False) := by
  refine g_ofR (cc := cL_some) (maxL := 2) (ret := (some .int)) (by decide) rfl (Nat.le_of_ble_eq_true rfl) (fun p e s m below meth c ls hx hb hr hml hts hown hlocks hP hK hl hD => ?_)
  have hS : va_S (fun _ => True) s.heap s.heap [] := va_S.rf
  have hl : lv_has ls 2 [(0, .int x9), (1, .int (nI rn))] := hl
  have hb2 : blN x9 2 < 2 := bl_lt (by decide)
  refine lv_iconst (v := 1) hx hb dL_some_0 (by decide) ?_
  refine lv_iload_n hx hb dL_some_1 rfl (lv_at hl 0 rfl) ?_
  refine lv_iconst (v := 1) hx hb dL_some_2 (by decide) ?_
  refine lv_ishr hx hb dL_some_3 ?_
  refine lv_iload_n hx hb dL_some_4 rfl (lv_at hl 1 rfl) ?_
  refine lv_iconst (v := 1) hx hb dL_some_5 (by decide) ?_
  refine lv_isub hx hb dL_some_6 ?_
  rw [show nI rn - 1 = nI (rn - 1) from pk_sub (a := rn) (b := 1) (by omega)]
  refine g_RSi (As := [.int (x9 >>> 1), .int (nI (rn - 1))]) (rest := [.int 1]) ⟨hx, hb, hml, hown, hts⟩ (mt_L_below l dC dI cA s.heap.size (x9 >>> 1) (rn - 1) (by first | omega | (simp only [List.length_append, List.length_cons, List.length_nil, List.length_set, turnL_len]; omega)) (by first | omega | (simp only [List.length_append, List.length_cons, List.length_nil, List.length_set, turnL_len]; omega))) (va_cwS 2 hts gL_some_L_below rfl rfl rfl hdL_below ⟨Nat.le_of_ble_eq_true rfl, Nat.le_of_ble_eq_true rfl⟩) hP hK hD [] (by decide) rfl rfl hl.1 rfl (Nat.le_of_ble_eq_true rfl) dL_some_7 (Nat.zero_le _) (Nat.zero_le _) ?_
  refine lv_iadd hx hb dL_some_10 ?_
  rw [show ((1 : Int32) + (nI (blN (x9 >>> 1) (rn - 1))) : Int32) = nI (1 + blN (x9 >>> 1) (rn - 1)) from nI_add 1 (blN (x9 >>> 1) (rn - 1))]
  refine lv_iload_n hx hb dL_some_11 rfl (lv_at hl 0 rfl) ?_
  refine lv_iconst (v := 2) hx hb dL_some_12 (by decide) ?_
  refine g_RSi (As := [.int x9, .int 2]) (rest := [.int (nI (1 + blN (x9 >>> 1) (rn - 1)))]) ⟨hx, hb, hml, hown, hts⟩ (mt_L_below l dC dI cA s.heap.size x9 2 (by first | omega | (simp only [List.length_append, List.length_cons, List.length_nil, List.length_set, turnL_len]; omega)) (by first | omega | (simp only [List.length_append, List.length_cons, List.length_nil, List.length_set, turnL_len]; omega))) (va_cwS 2 hts gL_some_L_below rfl rfl rfl hdL_below ⟨Nat.le_of_ble_eq_true rfl, Nat.le_of_ble_eq_true rfl⟩) hP hK hD [] (by decide) rfl rfl hl.1 rfl (Nat.le_of_ble_eq_true rfl) dL_some_13 (Nat.zero_le _) (Nat.zero_le _) ?_
  refine lv_if_ne (tgt := 23) hx hb dL_some_16 (by decide) (fun c16 => ?_) (fun c16 => ?_)
  · have c16 : ¬ (blN x9 2) = 0 := g_neT (blN x9 2) 0 (by omega) (by omega) c16
    refine lv_iconst (v := (-1)) hx hb dL_some_23 (by decide) ?_
    refine lv_imul hx hb dL_some_24 ?_
    exact g_endRi hx hb hr hlocks dL_some_25 (by unfold smL; rw [if_neg c16, Int32.mul_neg, Int32.mul_one])
  · have c16 : (blN x9 2) = 0 := g_neF (blN x9 2) 0 (by omega) (by omega) c16
    refine lv_iconst (v := 1) hx hb dL_some_19 (by decide) ?_
    refine lv_goto (tgt := 24) hx hb dL_some_20 (by decide) ?_
    refine lv_imul hx hb dL_some_24 ?_
    rw [show ((nI (1 + blN (x9 >>> 1) (rn - 1))) * 1 : Int32) = nI ((1 + blN (x9 >>> 1) (rn - 1)) * 1) from pk_mul (1 + blN (x9 >>> 1) (rn - 1)) 1]
    exact g_endRi hx hb hr hlocks dL_some_25 (by unfold smL; rw [if_pos c16, Nat.mul_one])

abbrev mt_L_isTriple_rm : Room := { frames := 1, cells := 0, slots := 0, locals := 21 }
set_option maxHeartbeats 4000000 in
set_option maxRecDepth 100000 in
/-- isTriple -/
theorem mt_L_isTriple (l : Launch) (dC : Nat → ClassId) (dI : Nat → Nat → Nat) (cA : ClassId) (sz : Nat) (a : Nat) (L : List Int32) (k : Nat) (hk : k + 2 < L.length) (hl1 : L.length ≤ 1000) : Met l yL_isTriple wsL_isTriple mt_L_isTriple_rm (va_Pc [.ref a, .int (nI k)] (gB (dC, dI) [(cA, .int)] [(a, .inl (cA, (L.length, .inl (atL L))))] sz)) (gR (some (.int (trI L k)))) 0 0 (fun _ => False) := by
  refine g_ofR (cc := cL_isTriple) (maxL := 2) (ret := (some .boolean)) (by decide) rfl (Nat.le_of_ble_eq_true rfl) (fun p e s m below meth c ls hx hb hr hml hts hown hlocks hP hK hl hD => ?_)
  have hS : va_S (fun _ => True) s.heap s.heap [] := va_S.rf
  have hl : lv_has ls 2 [(0, .ref a), (1, .int (nI k))] := hl
  refine lv_aload_n hx hb dL_isTriple_0 rfl (lv_at hl 0 rfl) ?_
  refine lv_iload_n hx hb dL_isTriple_1 rfl (lv_at hl 1 rfl) ?_
  refine va_iald hx hb hK hP 0 0 rfl rfl (vp_in_nI (by omega) (by omega)) dL_isTriple_2 ?_
  rw [show (nI k).toNatClampNeg = k from nI_clamp (by omega)]
  refine lv_aload_n hx hb dL_isTriple_3 rfl (lv_at hl 0 rfl) ?_
  refine lv_iload_n hx hb dL_isTriple_4 rfl (lv_at hl 1 rfl) ?_
  refine lv_iconst (v := 2) hx hb dL_isTriple_5 (by decide) ?_
  refine lv_iadd hx hb dL_isTriple_6 ?_
  rw [show ((nI k) + 2 : Int32) = nI (k + 2) from nI_add k 2]
  refine va_iald hx hb hK hP 0 0 rfl rfl (vp_in_nI (by omega) (by omega)) dL_isTriple_7 ?_
  rw [show (nI (k + 2)).toNatClampNeg = k + 2 from nI_clamp (by omega)]
  refine lv_icmp_ne (tgt := 43) hx hb dL_isTriple_8 (by decide) (fun c8 => ?_) (fun c8 => ?_)
  · refine lv_iconst (v := 0) hx hb dL_isTriple_43 (by decide) ?_
    exact g_endRz hx hb hr hlocks dL_isTriple_44 rfl ((trI_0 (fun q9 => c8 q9.1)).symm)
  · refine lv_aload_n hx hb dL_isTriple_11 rfl (lv_at hl 0 rfl) ?_
    refine lv_iload_n hx hb dL_isTriple_12 rfl (lv_at hl 1 rfl) ?_
    refine va_iald hx hb hK hP 0 0 rfl rfl (vp_in_nI (by omega) (by omega)) dL_isTriple_13 ?_
    rw [show (nI k).toNatClampNeg = k from nI_clamp (by omega)]
    refine lv_aload_n hx hb dL_isTriple_14 rfl (lv_at hl 0 rfl) ?_
    refine lv_iload_n hx hb dL_isTriple_15 rfl (lv_at hl 1 rfl) ?_
    refine lv_iconst (v := 1) hx hb dL_isTriple_16 (by decide) ?_
    refine lv_iadd hx hb dL_isTriple_17 ?_
    rw [show ((nI k) + 1 : Int32) = nI (k + 1) from nI_add k 1]
    refine va_iald hx hb hK hP 0 0 rfl rfl (vp_in_nI (by omega) (by omega)) dL_isTriple_18 ?_
    rw [show (nI (k + 1)).toNatClampNeg = k + 1 from nI_clamp (by omega)]
    refine lv_imul hx hb dL_isTriple_19 ?_
    refine lv_if_le (tgt := 43) hx hb dL_isTriple_20 (by decide) (fun c20 => ?_) (fun c20 => ?_)
    · refine lv_iconst (v := 0) hx hb dL_isTriple_43 (by decide) ?_
      exact g_endRz hx hb hr hlocks dL_isTriple_44 rfl ((trI_0 (fun q9 => q9.2.1 c20)).symm)
    · refine lv_aload_n hx hb dL_isTriple_23 rfl (lv_at hl 0 rfl) ?_
      refine lv_iload_n hx hb dL_isTriple_24 rfl (lv_at hl 1 rfl) ?_
      refine va_iald hx hb hK hP 0 0 rfl rfl (vp_in_nI (by omega) (by omega)) dL_isTriple_25 ?_
      rw [show (nI k).toNatClampNeg = k from nI_clamp (by omega)]
      refine lv_aload_n hx hb dL_isTriple_26 rfl (lv_at hl 0 rfl) ?_
      refine lv_iload_n hx hb dL_isTriple_27 rfl (lv_at hl 1 rfl) ?_
      refine lv_iconst (v := 1) hx hb dL_isTriple_28 (by decide) ?_
      refine lv_iadd hx hb dL_isTriple_29 ?_
      rw [show ((nI k) + 1 : Int32) = nI (k + 1) from nI_add k 1]
      refine va_iald hx hb hK hP 0 0 rfl rfl (vp_in_nI (by omega) (by omega)) dL_isTriple_30 ?_
      rw [show (nI (k + 1)).toNatClampNeg = k + 1 from nI_clamp (by omega)]
      refine lv_isub hx hb dL_isTriple_31 ?_
      refine va_mabs hx hb (hml.trans hl.1.symm) hown (hts (.methodLink RL 57 Lib.Math.abs.name) (List.mem_of_getElem? (i := 1) rfl)) (hts (.static Lib.Math.abs.name) (List.mem_of_getElem? (i := 2) rfl)) (hts (.initialized "java/lang/Math") (List.mem_of_getElem? (i := 3) rfl)) (hts (.code Lib.Math.abs.name Lib.Math.abs.code 1 (some .int)) (List.mem_of_getElem? (i := 4) rfl)) (Nat.le_of_ble_eq_true rfl) (Nat.le_of_ble_eq_true rfl) (Nat.zero_le _) (Nat.zero_le _) dL_isTriple_32 ?_
      rw [mabs_eq]
      refine lv_iconst (v := 1) hx hb dL_isTriple_35 (by decide) ?_
      refine lv_icmp_ne (tgt := 43) hx hb dL_isTriple_36 (by decide) (fun c36 => ?_) (fun c36 => ?_)
      · refine lv_iconst (v := 0) hx hb dL_isTriple_43 (by decide) ?_
        exact g_endRz hx hb hr hlocks dL_isTriple_44 rfl ((trI_0 (fun q9 => c36 q9.2.2)).symm)
      · refine lv_iconst (v := 1) hx hb dL_isTriple_39 (by decide) ?_
        refine lv_goto (tgt := 44) hx hb dL_isTriple_40 (by decide) ?_
        exact g_endRz hx hb hr hlocks dL_isTriple_44 rfl ((trI_1 ⟨c8, c20, c36⟩).symm)
