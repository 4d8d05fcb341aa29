/-! 38: the law's loop -/
theorem and31 (x : Int32) : ∃ k : Nat, k < 32 ∧ x &&& 31 = nI k := ⟨_, Nat.mod_lt _ (by decide), pk_and x (m := 31) 5 rfl⟩
theorem gt4 {L j : Nat} (hL : L ≤ 2048) (hj : 4 * j ≤ L) : nI L - 4 < nI (4 * j) ↔ L < 4 * j + 4 := by
  rw [show nI L - (4 : Int32) = nI L - nI 4 from rfl, Int32.lt_iff_toInt_lt, pk_sub_toInt (by omega) (by omega), nI_toInt (by omega)]
  omega
set_option maxHeartbeats 4000000 in
set_option maxRecDepth 100000 in
theorem lw_loop {p : Program} {l : Launch} {e : Env} {s : State} {m : MethodId} {below : List Frame} {meth : Method} {c : Code} {Q : State → Prop} {b L : Nat} {xs : Nat → Int32} {dC : Nat → ClassId} {dI : Nat → Nat → Nat} {cA cL : ClassId} {A : Nat → Prop} (E : lwE p l s m c b L xs dC dI cA cL A) {x0 r0 r1 r2 r3 a0 a1 a2 a3 y0 q1 q2 q3 q4 q5 o : Nat}
    (kend : ∀ (H : Heap) (locs : List Loc) (cells slots : Nat) (ls : Array Slot), va_S A s.heap H locs → cells ≤ 1053 → slots ≤ 9402 → W p l e room_1 s m #[Value.ref b] below meth c H locs cells slots Q (F0 m 1248 ls [.int 1])) :
    ∀ (d j : Nat), L < 4 * j + 4 * d + 4 → 4 * j ≤ L → ∀ (cells slots rn : Nat) (L0 L1 : List Int32) (H : Heap) (locs : List Loc) (ls : Array Slot), cells ≤ 16 + j → slots ≤ 1132 + 6 * j → lwI dC dI cA cL A s.heap x0 r0 r1 r2 r3 a0 a1 a2 a3 y0 q1 q2 q3 q4 q5 o rn L0 L1 H locs → lv_has ls 9 [(4, .int (nI (4 * j))), (3, .ref o), (2, .ref y0), (1, .ref x0), (0, .ref b)] → W p l e room_1 s m #[Value.ref b] below meth c H locs cells slots Q (F0 m 23 ls []) := by
  obtain ⟨hx, hb, hml, hown, hts, hX, hbl, hbA, hA, htr, hKl, hZ, hL2⟩ := id E
  intro d
  induction d with
  | zero =>
    intro j hd hj cells slots rn L0 L1 H locs ls hc hs hI hl
    obtain ⟨_, _, _, _, _, _, _, _, _, _, _, _, _, _, _, _, hP, hD, hS, -⟩ := hI
    refine lv_iload hx hb dL_law_23 (lv_at hl 0 rfl) ?_
    refine lv_aload_n hx hb dL_law_25 rfl (lv_at hl 4 rfl) ?_
    refine va_slen hx hb hX hbl hbA hS dL_law_26 ?_
    refine lv_iconst (v := 4) hx hb dL_law_27 (by decide) ?_
    refine lv_isub hx hb dL_law_28 ?_
    refine lv_icmp_gt (tgt := 1247) hx hb dL_law_29 (by decide) (fun c29 => ?_) (fun c29 => absurd ((gt4 hL2 hj).mpr (by omega)) c29)
    refine lv_iconst (v := 1) hx hb dL_law_1247 (by decide) ?_
    exact kend H locs cells slots ls hS (by omega) (by omega)
  | succ d ih =>
    intro j hd hj cells slots rn L0 L1 H locs ls hc hs hI hl
    have hI0 := hI
    obtain ⟨_, _, _, _, _, _, _, _, _, _, _, _, _, _, _, _, hP, hD, hS, -⟩ := hI0
    refine lv_iload hx hb dL_law_23 (lv_at hl 0 rfl) ?_
    refine lv_aload_n hx hb dL_law_25 rfl (lv_at hl 4 rfl) ?_
    refine va_slen hx hb hX hbl hbA hS dL_law_26 ?_
    refine lv_iconst (v := 4) hx hb dL_law_27 (by decide) ?_
    refine lv_isub hx hb dL_law_28 ?_
    refine lv_icmp_gt (tgt := 1247) hx hb dL_law_29 (by decide) (fun c29 => ?_) (fun c29 => ?_)
    · refine lv_iconst (v := 1) hx hb dL_law_1247 (by decide) ?_
      exact kend H locs cells slots ls hS (by omega) (by omega)
    have hj4 : 4 * j + 4 ≤ L := Nat.not_lt.mp (fun q => c29 ((gt4 hL2 hj).mpr q))
    have K1 : ∀ (rn : Nat) (L0 L1 : List Int32) (H : Heap) (locs : List Loc) (cells1 slots1 : Nat) (ls : Array Slot), lwI dC dI cA cL A s.heap x0 r0 r1 r2 r3 a0 a1 a2 a3 y0 q1 q2 q3 q4 q5 o rn L0 L1 H locs → cells1 ≤ 16 + (j + 1) → slots1 ≤ 1132 + 6 * (j + 1) → lv_has ls 9 [(4, .int (nI (4 * j))), (3, .ref o), (2, .ref y0), (1, .ref x0), (0, .ref b)] → W p l e room_1 s m #[Value.ref b] below meth c H locs cells1 slots1 Q (F0 m 1241 ls []) := by
      intro rn L0 L1 H locs c1 s1 ls hI h1 h2 hl
      refine lv_iinc (v := nI (4 * (j + 1))) (lv' := [(4, .int (nI (4 * (j + 1)))), (3, .ref o), (2, .ref y0), (1, .ref x0), (0, .ref b)]) hx hb dL_law_1241 hl (k := 0) rfl (nI_add (4 * j) 4) (by decide) rfl (fun ls hl => ?_)
      refine lv_goto (tgt := 23) hx hb dL_law_1244 (by decide) ?_
      exact ih (j + 1) (by omega) (by omega) c1 s1 rn L0 L1 H locs ls h1 h2 hI hl
    refine lv_aload_n hx hb dL_law_32 rfl (lv_at hl 4 rfl) ?_
    refine lv_iload hx hb dL_law_33 (lv_at hl 0 rfl) ?_
    refine va_sld hx hb hX hbl hbA hS (vp_in_nI (by omega) (by omega)) dL_law_35 ?_
    refine lv_bipush (v := 31) hx hb dL_law_36 (by decide) ?_
    refine lv_iand hx hb dL_law_38 ?_
    obtain ⟨k, hk, he⟩ := and31 (xs (nI (4 * j)).toNatClampNeg)
    rw [he]
    by_cases hk20 : 20 ≤ k
    · refine lv_tableOut (tgt := 1241) hx hb dL_law_39 (Or.inr (by rw [nI_toInt (by omega)]; omega)) (by decide) ?_
      exact K1 rn L0 L1 H locs cells slots ls hI (by omega) (by omega) hl
    · obtain rfl | rfl | rfl | rfl | rfl | rfl | rfl | rfl | rfl | rfl | rfl | rfl | rfl | rfl | rfl | rfl | rfl | rfl | rfl | rfl : k = 0 ∨ k = 1 ∨ k = 2 ∨ k = 3 ∨ k = 4 ∨ k = 5 ∨ k = 6 ∨ k = 7 ∨ k = 8 ∨ k = 9 ∨ k = 10 ∨ k = 11 ∨ k = 12 ∨ k = 13 ∨ k = 14 ∨ k = 15 ∨ k = 16 ∨ k = 17 ∨ k = 18 ∨ k = 19 := by omega
      · refine lv_tableIn (off := 93) (tgt := 132) hx hb dL_law_39 (by decide) (by decide) (by decide) (by decide) ?_
        exact lw_op_0 E (i := 4 * j) (by omega) (by omega) (by omega) hI hl (fun rn L0 L1 H locs c1 s1 ls hI2 h1 h2 hl2 => K1 rn L0 L1 H locs c1 s1 ls hI2 (by omega) (by omega) hl2)
      · refine lv_tableIn (off := 149) (tgt := 188) hx hb dL_law_39 (by decide) (by decide) (by decide) (by decide) ?_
        exact lw_op_1 E (i := 4 * j) (by omega) (by omega) (by omega) hI hl (fun rn L0 L1 H locs c1 s1 ls hI2 h1 h2 hl2 => K1 rn L0 L1 H locs c1 s1 ls hI2 (by omega) (by omega) hl2)
      · refine lv_tableIn (off := 217) (tgt := 256) hx hb dL_law_39 (by decide) (by decide) (by decide) (by decide) ?_
        exact lw_op_2 E (i := 4 * j) (by omega) (by omega) (by omega) hI hl (fun rn L0 L1 H locs c1 s1 ls hI2 h1 h2 hl2 => K1 rn L0 L1 H locs c1 s1 ls hI2 (by omega) (by omega) hl2)
      · refine lv_tableIn (off := 273) (tgt := 312) hx hb dL_law_39 (by decide) (by decide) (by decide) (by decide) ?_
        exact lw_op_3 E (i := 4 * j) (by omega) (by omega) (by omega) hI hl (fun rn L0 L1 H locs c1 s1 ls hI2 h1 h2 hl2 => K1 rn L0 L1 H locs c1 s1 ls hI2 (by omega) (by omega) hl2)
      · refine lv_tableIn (off := 329) (tgt := 368) hx hb dL_law_39 (by decide) (by decide) (by decide) (by decide) ?_
        exact lw_op_4 E (i := 4 * j) (by omega) (by omega) (by omega) hI hl (fun rn L0 L1 H locs c1 s1 ls hI2 h1 h2 hl2 => K1 rn L0 L1 H locs c1 s1 ls hI2 (by omega) (by omega) hl2)
      · refine lv_tableIn (off := 385) (tgt := 424) hx hb dL_law_39 (by decide) (by decide) (by decide) (by decide) ?_
        exact lw_op_5 E (i := 4 * j) (by omega) (by omega) (by omega) hI hl (fun rn L0 L1 H locs c1 s1 ls hI2 h1 h2 hl2 => K1 rn L0 L1 H locs c1 s1 ls hI2 (by omega) (by omega) hl2)
      · refine lv_tableIn (off := 453) (tgt := 492) hx hb dL_law_39 (by decide) (by decide) (by decide) (by decide) ?_
        exact lw_op_6 E (i := 4 * j) (by omega) (by omega) (by omega) hI hl (fun rn L0 L1 H locs c1 s1 ls hI2 h1 h2 hl2 => K1 rn L0 L1 H locs c1 s1 ls hI2 (by omega) (by omega) hl2)
      · refine lv_tableIn (off := 521) (tgt := 560) hx hb dL_law_39 (by decide) (by decide) (by decide) (by decide) ?_
        exact lw_op_7 E (i := 4 * j) (by omega) (by omega) (by omega) hI hl (fun rn L0 L1 H locs c1 s1 ls hI2 h1 h2 hl2 => K1 rn L0 L1 H locs c1 s1 ls hI2 (by omega) (by omega) hl2)
      · refine lv_tableIn (off := 601) (tgt := 640) hx hb dL_law_39 (by decide) (by decide) (by decide) (by decide) ?_
        exact lw_op_8 E (i := 4 * j) (by omega) (by omega) (by omega) hI hl (fun rn L0 L1 H locs c1 s1 ls hI2 h1 h2 hl2 => K1 rn L0 L1 H locs c1 s1 ls hI2 (by omega) (by omega) hl2)
      · refine lv_tableIn (off := 657) (tgt := 696) hx hb dL_law_39 (by decide) (by decide) (by decide) (by decide) ?_
        exact lw_op_9 E (i := 4 * j) (by omega) (by omega) (by omega) hI hl (fun rn L0 L1 H locs c1 s1 ls hI2 h1 h2 hl2 => K1 rn L0 L1 H locs c1 s1 ls hI2 (by omega) (by omega) hl2)
      · refine lv_tableIn (off := 725) (tgt := 764) hx hb dL_law_39 (by decide) (by decide) (by decide) (by decide) ?_
        exact lw_op_10 E (i := 4 * j) (by omega) (by omega) (by omega) hI hl (fun rn L0 L1 H locs c1 s1 ls hI2 h1 h2 hl2 => K1 rn L0 L1 H locs c1 s1 ls hI2 (by omega) (by omega) hl2)
      · refine lv_tableIn (off := 781) (tgt := 820) hx hb dL_law_39 (by decide) (by decide) (by decide) (by decide) ?_
        exact lw_op_11 E (i := 4 * j) (by omega) (by omega) (by omega) hI hl (fun rn L0 L1 H locs c1 s1 ls hI2 h1 h2 hl2 => K1 rn L0 L1 H locs c1 s1 ls hI2 (by omega) (by omega) hl2)
      · refine lv_tableIn (off := 849) (tgt := 888) hx hb dL_law_39 (by decide) (by decide) (by decide) (by decide) ?_
        exact lw_op_12 E (i := 4 * j) (by omega) (by omega) (by omega) hI hl (fun rn L0 L1 H locs c1 s1 ls hI2 h1 h2 hl2 => K1 rn L0 L1 H locs c1 s1 ls hI2 (by omega) (by omega) hl2)
      · refine lv_tableIn (off := 929) (tgt := 968) hx hb dL_law_39 (by decide) (by decide) (by decide) (by decide) ?_
        exact lw_op_13 E (i := 4 * j) (by omega) (by omega) (by omega) hI hl (fun rn L0 L1 H locs c1 s1 ls hI2 h1 h2 hl2 => K1 rn L0 L1 H locs c1 s1 ls hI2 (by omega) (by omega) hl2)
      · refine lv_tableIn (off := 997) (tgt := 1036) hx hb dL_law_39 (by decide) (by decide) (by decide) (by decide) ?_
        exact lw_op_14 E (i := 4 * j) (by omega) (by omega) (by omega) hI hl (fun rn L0 L1 H locs c1 s1 ls hI2 h1 h2 hl2 => K1 rn L0 L1 H locs c1 s1 ls hI2 (by omega) (by omega) hl2)
      · refine lv_tableIn (off := 1065) (tgt := 1104) hx hb dL_law_39 (by decide) (by decide) (by decide) (by decide) ?_
        exact lw_op_15 E (i := 4 * j) (by omega) (by omega) (by omega) hI hl (fun rn L0 L1 H locs c1 s1 ls hI2 h1 h2 hl2 => K1 rn L0 L1 H locs c1 s1 ls hI2 (by omega) (by omega) hl2)
      · refine lv_tableIn (off := 1078) (tgt := 1117) hx hb dL_law_39 (by decide) (by decide) (by decide) (by decide) ?_
        exact lw_op_16 E (i := 4 * j) (by omega) (by omega) (by omega) hI hl (fun rn L0 L1 H locs c1 s1 ls hI2 h1 h2 hl2 => K1 rn L0 L1 H locs c1 s1 ls hI2 (by omega) (by omega) hl2)
      · refine lv_tableIn (off := 1091) (tgt := 1130) hx hb dL_law_39 (by decide) (by decide) (by decide) (by decide) ?_
        exact lw_op_17 E (i := 4 * j) (by omega) (by omega) (by omega) hI hl (fun rn L0 L1 H locs c1 s1 ls hI2 h1 h2 hl2 => K1 rn L0 L1 H locs c1 s1 ls hI2 (by omega) (by omega) hl2)
      · refine lv_tableIn (off := 1147) (tgt := 1186) hx hb dL_law_39 (by decide) (by decide) (by decide) (by decide) ?_
        exact lw_op_18 E (i := 4 * j) (by omega) (by omega) (by omega) hI hl (fun rn L0 L1 H locs c1 s1 ls hI2 h1 h2 hl2 => K1 rn L0 L1 H locs c1 s1 ls hI2 (by omega) (by omega) hl2)
      · refine lv_tableIn (off := 1188) (tgt := 1227) hx hb dL_law_39 (by decide) (by decide) (by decide) (by decide) ?_
        exact lw_op_19 E (i := 4 * j) (by omega) (by omega) (by omega) hI hl (fun rn L0 L1 H locs c1 s1 ls hI2 h1 h2 hl2 => K1 rn L0 L1 H locs c1 s1 ls hI2 (by omega) (by omega) hl2)
