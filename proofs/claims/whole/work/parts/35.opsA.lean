/-! 35: the law's steps, a call each -/
theorem rp_ix (x : Int32) : (x < 3 ∨ 6 < x) ∨ ∃ rq : Nat, 3 ≤ rq ∧ rq ≤ 6 ∧ x = nI rq := by
  rcases pk_ix x (n := 7) (by decide) with h | h | ⟨j, h, rfl⟩
  · exact Or.inl (Or.inl (Int32.lt_trans h (by decide)))
  · exact Or.inl (Or.inr (Int32.lt_of_lt_of_le (by decide) h))
  · by_cases c : 3 ≤ j
    · exact Or.inr ⟨j, c, by omega, rfl⟩
    · exact Or.inl (Or.inl (nI_lt (b := 3) (by omega) (by decide)))
theorem lt_ix (rn : Nat) (x : Int32) : (x = 0 ∨ x ≤ -nI rn ∨ nI rn ≤ x) ∨ (¬ x = 0 ∧ ¬ x ≤ -nI rn ∧ x < nI rn) := by
  by_cases c1 : x = 0
  · exact Or.inl (Or.inl c1)
  · by_cases c2 : x ≤ -nI rn
    · exact Or.inl (Or.inr (Or.inl c2))
    · by_cases c3 : x < nI rn
      · exact Or.inr ⟨c1, c2, c3⟩
      · exact Or.inl (Or.inr (Or.inr (Int32.not_lt.mp c3)))
theorem pl_bad {n : Nat} {x : Int32} (hn : n ≤ 30) (h : x < 0 ∨ nI (n - 1) ≤ x) : x < 0 ∨ plI n ≤ x := by
  rcases h with h | h
  · exact Or.inl h
  · cases n with
    | zero => exact Or.inr (Int32.le_trans (by decide) h)
    | succ k => exact Or.inr h
theorem ab_bad {n : Nat} {x : Int32} (hn : n ≤ 30) (h : x < 0 ∨ nI (n - 2) ≤ x) : x < 0 ∨ nI n - 2 ≤ x := by
  rcases h with h | h
  · exact Or.inl h
  · refine Or.inr ?_
    rw [Int32.le_iff_toInt_le, nI_toInt (by omega)] at h
    rw [Int32.le_iff_toInt_le, show nI n - (2 : Int32) = nI n - nI 2 from rfl, pk_sub_toInt (by omega) (by omega)]
    omega
theorem hdL_about : yL_about.cls ≠ "java/lang/invoke/MethodHandle" ∧ yL_about.cls ≠ "java/lang/invoke/VarHandle" ∧ (parseMethodDescriptor yL_about.desc).map (fun d => d.parameters.length) = some 4 := by decide +kernel
theorem hdL_advise : yL_advise.cls ≠ "java/lang/invoke/MethodHandle" ∧ yL_advise.cls ≠ "java/lang/invoke/VarHandle" ∧ (parseMethodDescriptor yL_advise.desc).map (fun d => d.parameters.length) = some 3 := by decide +kernel
theorem hdL_count : yL_count.cls ≠ "java/lang/invoke/MethodHandle" ∧ yL_count.cls ≠ "java/lang/invoke/VarHandle" ∧ (parseMethodDescriptor yL_count.desc).map (fun d => d.parameters.length) = some 3 := by decide +kernel
theorem hdL_crosses : yL_crosses.cls ≠ "java/lang/invoke/MethodHandle" ∧ yL_crosses.cls ≠ "java/lang/invoke/VarHandle" ∧ (parseMethodDescriptor yL_crosses.desc).map (fun d => d.parameters.length) = some 5 := by decide +kernel
theorem hdL_cut : yL_cut.cls ≠ "java/lang/invoke/MethodHandle" ∧ yL_cut.cls ≠ "java/lang/invoke/VarHandle" ∧ (parseMethodDescriptor yL_cut.desc).map (fun d => d.parameters.length) = some 3 := by decide +kernel
theorem hdL_end : yL_end.cls ≠ "java/lang/invoke/MethodHandle" ∧ yL_end.cls ≠ "java/lang/invoke/VarHandle" ∧ (parseMethodDescriptor yL_end.desc).map (fun d => d.parameters.length) = some 4 := by decide +kernel
theorem hdL_handle : yL_handle.cls ≠ "java/lang/invoke/MethodHandle" ∧ yL_handle.cls ≠ "java/lang/invoke/VarHandle" ∧ (parseMethodDescriptor yL_handle.desc).map (fun d => d.parameters.length) = some 4 := by decide +kernel
theorem hdL_insert : yL_insert.cls ≠ "java/lang/invoke/MethodHandle" ∧ yL_insert.cls ≠ "java/lang/invoke/VarHandle" ∧ (parseMethodDescriptor yL_insert.desc).map (fun d => d.parameters.length) = some 5 := by decide +kernel
theorem hdL_join : yL_join.cls ≠ "java/lang/invoke/MethodHandle" ∧ yL_join.cls ≠ "java/lang/invoke/VarHandle" ∧ (parseMethodDescriptor yL_join.desc).map (fun d => d.parameters.length) = some 3 := by decide +kernel
theorem hdL_letter : yL_letter.cls ≠ "java/lang/invoke/MethodHandle" ∧ yL_letter.cls ≠ "java/lang/invoke/VarHandle" ∧ (parseMethodDescriptor yL_letter.desc).map (fun d => d.parameters.length) = some 4 := by decide +kernel
theorem hdL_plain : yL_plain.cls ≠ "java/lang/invoke/MethodHandle" ∧ yL_plain.cls ≠ "java/lang/invoke/VarHandle" ∧ (parseMethodDescriptor yL_plain.desc).map (fun d => d.parameters.length) = some 4 := by decide +kernel
theorem hdL_setRopes : yL_setRopes.cls ≠ "java/lang/invoke/MethodHandle" ∧ yL_setRopes.cls ≠ "java/lang/invoke/VarHandle" ∧ (parseMethodDescriptor yL_setRopes.desc).map (fun d => d.parameters.length) = some 3 := by decide +kernel
theorem hdL_swap : yL_swap.cls ≠ "java/lang/invoke/MethodHandle" ∧ yL_swap.cls ≠ "java/lang/invoke/VarHandle" ∧ (parseMethodDescriptor yL_swap.desc).map (fun d => d.parameters.length) = some 4 := by decide +kernel
theorem hdL_turn : yL_turn.cls ≠ "java/lang/invoke/MethodHandle" ∧ yL_turn.cls ≠ "java/lang/invoke/VarHandle" ∧ (parseMethodDescriptor yL_turn.desc).map (fun d => d.parameters.length) = some 3 := by decide +kernel
theorem hdL_twist : yL_twist.cls ≠ "java/lang/invoke/MethodHandle" ∧ yL_twist.cls ≠ "java/lang/invoke/VarHandle" ∧ (parseMethodDescriptor yL_twist.desc).map (fun d => d.parameters.length) = some 4 := by decide +kernel
theorem hdL_untwist : yL_untwist.cls ≠ "java/lang/invoke/MethodHandle" ∧ yL_untwist.cls ≠ "java/lang/invoke/VarHandle" ∧ (parseMethodDescriptor yL_untwist.desc).map (fun d => d.parameters.length) = some 3 := by decide +kernel
theorem hdX1_ahead : yX1_ahead.cls = RX1 ∧ yX1_ahead.cls ≠ "java/lang/invoke/MethodHandle" ∧ yX1_ahead.cls ≠ "java/lang/invoke/VarHandle" ∧ (parseMethodDescriptor yX1_ahead.desc).map (fun d => d.parameters.length) = some 0 := by decide +kernel
theorem hdX1_digest : yX1_digest.cls = RX1 ∧ yX1_digest.cls ≠ "java/lang/invoke/MethodHandle" ∧ yX1_digest.cls ≠ "java/lang/invoke/VarHandle" ∧ (parseMethodDescriptor yX1_digest.desc).map (fun d => d.parameters.length) = some 0 := by decide +kernel
theorem hdX1_mean : yX1_mean.cls = RX1 ∧ yX1_mean.cls ≠ "java/lang/invoke/MethodHandle" ∧ yX1_mean.cls ≠ "java/lang/invoke/VarHandle" ∧ (parseMethodDescriptor yX1_mean.desc).map (fun d => d.parameters.length) = some 0 := by decide +kernel
theorem hdX1_same : yX1_same.cls = RX1 ∧ yX1_same.cls ≠ "java/lang/invoke/MethodHandle" ∧ yX1_same.cls ≠ "java/lang/invoke/VarHandle" ∧ (parseMethodDescriptor yX1_same.desc).map (fun d => d.parameters.length) = some 0 := by decide +kernel
theorem hdX2_about : yX2_about.cls = RX2 ∧ yX2_about.cls ≠ "java/lang/invoke/MethodHandle" ∧ yX2_about.cls ≠ "java/lang/invoke/VarHandle" ∧ (parseMethodDescriptor yX2_about.desc).map (fun d => d.parameters.length) = some 2 := by decide +kernel
theorem hdX2_advise : yX2_advise.cls = RX2 ∧ yX2_advise.cls ≠ "java/lang/invoke/MethodHandle" ∧ yX2_advise.cls ≠ "java/lang/invoke/VarHandle" ∧ (parseMethodDescriptor yX2_advise.desc).map (fun d => d.parameters.length) = some 1 := by decide +kernel
theorem hdX2_ahead : yX2_ahead.cls = RX2 ∧ yX2_ahead.cls ≠ "java/lang/invoke/MethodHandle" ∧ yX2_ahead.cls ≠ "java/lang/invoke/VarHandle" ∧ (parseMethodDescriptor yX2_ahead.desc).map (fun d => d.parameters.length) = some 0 := by decide +kernel
theorem hdX2_count : yX2_count.cls = RX2 ∧ yX2_count.cls ≠ "java/lang/invoke/MethodHandle" ∧ yX2_count.cls ≠ "java/lang/invoke/VarHandle" ∧ (parseMethodDescriptor yX2_count.desc).map (fun d => d.parameters.length) = some 1 := by decide +kernel
theorem hdX2_crosses : yX2_crosses.cls = RX2 ∧ yX2_crosses.cls ≠ "java/lang/invoke/MethodHandle" ∧ yX2_crosses.cls ≠ "java/lang/invoke/VarHandle" ∧ (parseMethodDescriptor yX2_crosses.desc).map (fun d => d.parameters.length) = some 3 := by decide +kernel
theorem hdX2_cut : yX2_cut.cls = RX2 ∧ yX2_cut.cls ≠ "java/lang/invoke/MethodHandle" ∧ yX2_cut.cls ≠ "java/lang/invoke/VarHandle" ∧ (parseMethodDescriptor yX2_cut.desc).map (fun d => d.parameters.length) = some 1 := by decide +kernel
theorem hdX2_digest : yX2_digest.cls = RX2 ∧ yX2_digest.cls ≠ "java/lang/invoke/MethodHandle" ∧ yX2_digest.cls ≠ "java/lang/invoke/VarHandle" ∧ (parseMethodDescriptor yX2_digest.desc).map (fun d => d.parameters.length) = some 0 := by decide +kernel
theorem hdX2_end : yX2_end.cls = RX2 ∧ yX2_end.cls ≠ "java/lang/invoke/MethodHandle" ∧ yX2_end.cls ≠ "java/lang/invoke/VarHandle" ∧ (parseMethodDescriptor yX2_end.desc).map (fun d => d.parameters.length) = some 2 := by decide +kernel
theorem hdX2_handle : yX2_handle.cls = RX2 ∧ yX2_handle.cls ≠ "java/lang/invoke/MethodHandle" ∧ yX2_handle.cls ≠ "java/lang/invoke/VarHandle" ∧ (parseMethodDescriptor yX2_handle.desc).map (fun d => d.parameters.length) = some 2 := by decide +kernel
theorem hdX2_insert : yX2_insert.cls = RX2 ∧ yX2_insert.cls ≠ "java/lang/invoke/MethodHandle" ∧ yX2_insert.cls ≠ "java/lang/invoke/VarHandle" ∧ (parseMethodDescriptor yX2_insert.desc).map (fun d => d.parameters.length) = some 3 := by decide +kernel
theorem hdX2_join : yX2_join.cls = RX2 ∧ yX2_join.cls ≠ "java/lang/invoke/MethodHandle" ∧ yX2_join.cls ≠ "java/lang/invoke/VarHandle" ∧ (parseMethodDescriptor yX2_join.desc).map (fun d => d.parameters.length) = some 1 := by decide +kernel
theorem hdX2_letter : yX2_letter.cls = RX2 ∧ yX2_letter.cls ≠ "java/lang/invoke/MethodHandle" ∧ yX2_letter.cls ≠ "java/lang/invoke/VarHandle" ∧ (parseMethodDescriptor yX2_letter.desc).map (fun d => d.parameters.length) = some 2 := by decide +kernel
theorem hdX2_mean : yX2_mean.cls = RX2 ∧ yX2_mean.cls ≠ "java/lang/invoke/MethodHandle" ∧ yX2_mean.cls ≠ "java/lang/invoke/VarHandle" ∧ (parseMethodDescriptor yX2_mean.desc).map (fun d => d.parameters.length) = some 0 := by decide +kernel
theorem hdX2_plain : yX2_plain.cls = RX2 ∧ yX2_plain.cls ≠ "java/lang/invoke/MethodHandle" ∧ yX2_plain.cls ≠ "java/lang/invoke/VarHandle" ∧ (parseMethodDescriptor yX2_plain.desc).map (fun d => d.parameters.length) = some 2 := by decide +kernel
theorem hdX2_same : yX2_same.cls = RX2 ∧ yX2_same.cls ≠ "java/lang/invoke/MethodHandle" ∧ yX2_same.cls ≠ "java/lang/invoke/VarHandle" ∧ (parseMethodDescriptor yX2_same.desc).map (fun d => d.parameters.length) = some 0 := by decide +kernel
theorem hdX2_setRopes : yX2_setRopes.cls = RX2 ∧ yX2_setRopes.cls ≠ "java/lang/invoke/MethodHandle" ∧ yX2_setRopes.cls ≠ "java/lang/invoke/VarHandle" ∧ (parseMethodDescriptor yX2_setRopes.desc).map (fun d => d.parameters.length) = some 1 := by decide +kernel
theorem hdX2_swap : yX2_swap.cls = RX2 ∧ yX2_swap.cls ≠ "java/lang/invoke/MethodHandle" ∧ yX2_swap.cls ≠ "java/lang/invoke/VarHandle" ∧ (parseMethodDescriptor yX2_swap.desc).map (fun d => d.parameters.length) = some 2 := by decide +kernel
theorem hdX2_thrown : yX2_thrown.cls = RX2 ∧ yX2_thrown.cls ≠ "java/lang/invoke/MethodHandle" ∧ yX2_thrown.cls ≠ "java/lang/invoke/VarHandle" ∧ (parseMethodDescriptor yX2_thrown.desc).map (fun d => d.parameters.length) = some 0 := by decide +kernel
theorem hdX2_turn : yX2_turn.cls = RX2 ∧ yX2_turn.cls ≠ "java/lang/invoke/MethodHandle" ∧ yX2_turn.cls ≠ "java/lang/invoke/VarHandle" ∧ (parseMethodDescriptor yX2_turn.desc).map (fun d => d.parameters.length) = some 1 := by decide +kernel
theorem hdX2_twist : yX2_twist.cls = RX2 ∧ yX2_twist.cls ≠ "java/lang/invoke/MethodHandle" ∧ yX2_twist.cls ≠ "java/lang/invoke/VarHandle" ∧ (parseMethodDescriptor yX2_twist.desc).map (fun d => d.parameters.length) = some 2 := by decide +kernel
theorem hdX2_untwist : yX2_untwist.cls = RX2 ∧ yX2_untwist.cls ≠ "java/lang/invoke/MethodHandle" ∧ yX2_untwist.cls ≠ "java/lang/invoke/VarHandle" ∧ (parseMethodDescriptor yX2_untwist.desc).map (fun d => d.parameters.length) = some 1 := by decide +kernel
set_option maxHeartbeats 4000000 in
set_option maxRecDepth 100000 in
theorem lw_op_0 {p : Program} {l : Launch} {e : Env} {s : State} {m : MethodId} {below : List Frame} {meth : Method} {c : Code} {Q : State → Prop} {b L : Nat} {xs : Nat → Int32} {dC : Nat → ClassId} {dI : Nat → Nat → Nat} {cA cL : ClassId} {A : Nat → Prop} (E : lwE p l s m c b L xs dC dI cA cL A) {x0 r0 r1 r2 r3 a0 a1 a2 a3 y0 q1 q2 q3 q4 q5 o : Nat} {i : Nat} (hi : i + 4 ≤ L) {cells slots : Nat} (hC : cells + 1 ≤ 1053) (hS9 : slots + 6 ≤ 9402) {rn : Nat} {L0 L1 : List Int32} {H : Heap} {locs : List Loc} (hI : lwI dC dI cA cL A s.heap x0 r0 r1 r2 r3 a0 a1 a2 a3 y0 q1 q2 q3 q4 q5 o rn L0 L1 H locs) {ls : Array Slot} (hl : lv_has ls 9 [(4, .int (nI i)), (3, .ref o), (2, .ref y0), (1, .ref x0), (0, .ref b)])
    (kk : ∀ (rn : Nat) (L0 L1 : List Int32) (H : Heap) (locs : List Loc) (cells1 slots1 : Nat) (ls : Array Slot), lwI dC dI cA cL A s.heap x0 r0 r1 r2 r3 a0 a1 a2 a3 y0 q1 q2 q3 q4 q5 o rn L0 L1 H locs → cells1 ≤ cells + 1 → slots1 ≤ slots + 6 → lv_has ls 9 [(4, .int (nI i)), (3, .ref o), (2, .ref y0), (1, .ref x0), (0, .ref b)] → W p l e room_1 s m #[Value.ref b] below meth c H locs cells1 slots1 Q (F0 m 1241 ls [])) :
    W p l e room_1 s m #[Value.ref b] below meth c H locs cells slots Q (F0 m 132 ls []) := by
  obtain ⟨hx, hb, hml, hown, hts, hX, hbl, hbA, hA, htr, hKl, hZ, hL2⟩ := E
  obtain ⟨f0, f1, n2, f2, n3, f3, tv, sf, lf, mn, rf, nf, ct, il, gf, fo, hP, hD, hS, hR0, hR1, hl0, hl1, hrn, hr6, hk0, hk1, hW⟩ := hI
  have hK : va_K (dC, dI) vwCl [(cA, .int)] s := hKl.sub [0] rfl
  have hok := V2_ok hk0 hk1
  have hc0 : cells ≤ room_1.cells := (show cells ≤ 1053 from by omega)
  have hs0 : slots ≤ room_1.slots := (show slots ≤ 9402 from by omega)
  have hc1 : cells + 1 ≤ room_1.cells := hC
  have hs1 : slots + 6 ≤ room_1.slots := hS9
  rcases rp_ix (xs (i + 1)) with hbad | ⟨rq, h3, h6, h1⟩
  · refine lv_aload_n hx hb dL_law_132 rfl (lv_at hl 3 rfl) ?_
    refine lv_aload_n hx hb dL_law_133 rfl (lv_at hl 4 rfl) ?_
    refine lv_iload hx hb dL_law_134 (lv_at hl 0 rfl) ?_
    refine lv_iconst (v := 1) hx hb dL_law_136 (by decide) ?_
    refine lv_iadd hx hb dL_law_137 ?_
    rw [show (nI i) + 1 = nI (i + 1) from nI_add i 1]
    refine va_sld hx hb hX hbl hbA hS (vp_in_nI (by omega) (by omega)) dL_law_138 ?_
    rw [show (nI (i + 1)).toNatClampNeg = i + 1 from nI_clamp (by omega)]
    refine lv_aload_n hx hb dL_law_139 rfl (lv_at hl 1 rfl) ?_
    refine g_LS (As := [.ref x0, .int (xs (i + 1)), .ref o]) (rest := []) ⟨hx, hb, hml, hown, hts⟩ (mt_L_setRopes_1 l htr dC dI cA cL H.size x0 (xs (i + 1)) r0 r1 r2 r3 (nI rn) o fo hbad) (vx_cwSW 3 hts gL_law_L_setRopes rfl rfl rfl hdL_setRopes ⟨Nat.le_of_ble_eq_true rfl, Nat.le_of_ble_eq_true rfl⟩) hP hKl hD hS hA hZ [0, 15] (by decide) rfl rfl hl.1 rfl (Nat.le_of_ble_eq_true rfl) dL_law_140 hc1 hs1 (fun u9 => [(x0, .inr (1, [.ref r0, .ref r1, .ref r2, .ref r3, .int (nI rn)])), (r0, .inr (0, [.ref a0, .int (nI L0.length)])), (a0, .inl (cA, (100, .inl f0))), (r1, .inr (0, [.ref a1, .int (nI L1.length)])), (a1, .inl (cA, (100, .inl f1))), (r2, .inr (0, [.ref a2, .int n2])), (a2, .inl (cA, (100, .inl f2))), (r3, .inr (0, [.ref a3, .int n3])), (a3, .inl (cA, (100, .inl f3))), (y0, .inr (2, [.int tv, .int (nI rn), .ref q1, .ref q2, .int mn, .ref q3, .ref q4, .int ct, .int il, .ref q5])), (q1, .inl (cA, (2, .inl sf))), (q2, .inl (cA, (60, .inl lf))), (q3, .inl (cA, (320, .inl rf))), (q4, .inl (cA, (320, .inl nf))), (q5, .inl (cA, (6, .inl gf))), (o, .inl (cL, (1, .inr (.inl fo))))]) (fun _ => rfl) (fun _ => rfl) (fun u H locs hw_1 hP hD hS => ?_)
    have hP : va_P (dC, dI) vwCl [(x0, .inr (1, [.ref r0, .ref r1, .ref r2, .ref r3, .int (nI rn)])), (r0, .inr (0, [.ref a0, .int (nI L0.length)])), (a0, .inl (cA, (100, .inl f0))), (r1, .inr (0, [.ref a1, .int (nI L1.length)])), (a1, .inl (cA, (100, .inl f1))), (r2, .inr (0, [.ref a2, .int n2])), (a2, .inl (cA, (100, .inl f2))), (r3, .inr (0, [.ref a3, .int n3])), (a3, .inl (cA, (100, .inl f3))), (y0, .inr (2, [.int tv, .int (nI rn), .ref q1, .ref q2, .int mn, .ref q3, .ref q4, .int ct, .int il, .ref q5])), (q1, .inl (cA, (2, .inl sf))), (q2, .inl (cA, (60, .inl lf))), (q3, .inl (cA, (320, .inl rf))), (q4, .inl (cA, (320, .inl nf))), (q5, .inl (cA, (6, .inl gf))), (o, .inl (cL, (1, .inr (.inl fo))))] H := hP
    have hD : va_D A [(x0, .inr (1, [.ref r0, .ref r1, .ref r2, .ref r3, .int (nI rn)])), (r0, .inr (0, [.ref a0, .int (nI L0.length)])), (a0, .inl (cA, (100, .inl f0))), (r1, .inr (0, [.ref a1, .int (nI L1.length)])), (a1, .inl (cA, (100, .inl f1))), (r2, .inr (0, [.ref a2, .int n2])), (a2, .inl (cA, (100, .inl f2))), (r3, .inr (0, [.ref a3, .int n3])), (a3, .inl (cA, (100, .inl f3))), (y0, .inr (2, [.int tv, .int (nI rn), .ref q1, .ref q2, .int mn, .ref q3, .ref q4, .int ct, .int il, .ref q5])), (q1, .inl (cA, (2, .inl sf))), (q2, .inl (cA, (60, .inl lf))), (q3, .inl (cA, (320, .inl rf))), (q4, .inl (cA, (320, .inl nf))), (q5, .inl (cA, (6, .inl gf))), (o, .inl (cL, (1, .inr (.inl fo))))] := hD
    refine lv_istore (lv' := [(5, .int 1), (4, .int (nI i)), (3, .ref o), (2, .ref y0), (1, .ref x0), (0, .ref b)]) hx hb dL_law_143 hl (by decide) rfl (fun ls hl => ?_)
    refine lv_aload_n hx hb dL_law_145 rfl (lv_at hl 3 rfl) ?_
    refine lv_aload_n hx hb dL_law_146 rfl (lv_at hl 5 rfl) ?_
    refine lv_iload hx hb dL_law_147 (lv_at hl 1 rfl) ?_
    refine lv_iconst (v := 1) hx hb dL_law_149 (by decide) ?_
    refine lv_iadd hx hb dL_law_150 ?_
    rw [show (nI i) + 1 = nI (i + 1) from nI_add i 1]
    refine va_sld hx hb hX hbl hbA hS (vp_in_nI (by omega) (by omega)) dL_law_151 ?_
    rw [show (nI (i + 1)).toNatClampNeg = i + 1 from nI_clamp (by omega)]
    refine g_MVi (As := [.int (xs (i + 1))]) (rest := []) ⟨hx, hb, hml, hown, hts⟩ (mt_X2_setRopes_1 l dC dI cA H.size y0 q1 q2 q3 q4 q5 rn tv sf lf mn rf nf ct il gf (xs (i + 1)) hbad) (cwV 1 hts gL_law_X2_setRopes rfl rfl rfl hdX2_setRopes ⟨Nat.le_of_ble_eq_true rfl, Nat.le_of_ble_eq_true rfl⟩) hP hK hD hS hA [9, 10, 11, 12, 13, 14] (by decide) rfl (va_recv hK hP (ci := 2) (q0 := 9) rfl rfl) rfl hl.1 rfl (Nat.le_of_ble_eq_true rfl) dL_law_152 hc1 hs1 (fun u9 => [(x0, .inr (1, [.ref r0, .ref r1, .ref r2, .ref r3, .int (nI rn)])), (r0, .inr (0, [.ref a0, .int (nI L0.length)])), (a0, .inl (cA, (100, .inl f0))), (r1, .inr (0, [.ref a1, .int (nI L1.length)])), (a1, .inl (cA, (100, .inl f1))), (r2, .inr (0, [.ref a2, .int n2])), (a2, .inl (cA, (100, .inl f2))), (r3, .inr (0, [.ref a3, .int n3])), (a3, .inl (cA, (100, .inl f3))), (y0, .inr (2, [.int 1, .int (nI rn), .ref q1, .ref q2, .int mn, .ref q3, .ref q4, .int ct, .int il, .ref q5])), (q1, .inl (cA, (2, .inl sf))), (q2, .inl (cA, (60, .inl lf))), (q3, .inl (cA, (320, .inl rf))), (q4, .inl (cA, (320, .inl nf))), (q5, .inl (cA, (6, .inl gf))), (o, .inl (cL, (1, .inr (.inl fo))))]) (fun _ => rfl) (fun _ => rfl) (fun u H locs hw_2 hP hD hS => ?_)
    have hw_2 : True := hw_2
    have hP : va_P (dC, dI) vwCl [(x0, .inr (1, [.ref r0, .ref r1, .ref r2, .ref r3, .int (nI rn)])), (r0, .inr (0, [.ref a0, .int (nI L0.length)])), (a0, .inl (cA, (100, .inl f0))), (r1, .inr (0, [.ref a1, .int (nI L1.length)])), (a1, .inl (cA, (100, .inl f1))), (r2, .inr (0, [.ref a2, .int n2])), (a2, .inl (cA, (100, .inl f2))), (r3, .inr (0, [.ref a3, .int n3])), (a3, .inl (cA, (100, .inl f3))), (y0, .inr (2, [.int 1, .int (nI rn), .ref q1, .ref q2, .int mn, .ref q3, .ref q4, .int ct, .int il, .ref q5])), (q1, .inl (cA, (2, .inl sf))), (q2, .inl (cA, (60, .inl lf))), (q3, .inl (cA, (320, .inl rf))), (q4, .inl (cA, (320, .inl nf))), (q5, .inl (cA, (6, .inl gf))), (o, .inl (cL, (1, .inr (.inl fo))))] H := hP
    have hD : va_D A [(x0, .inr (1, [.ref r0, .ref r1, .ref r2, .ref r3, .int (nI rn)])), (r0, .inr (0, [.ref a0, .int (nI L0.length)])), (a0, .inl (cA, (100, .inl f0))), (r1, .inr (0, [.ref a1, .int (nI L1.length)])), (a1, .inl (cA, (100, .inl f1))), (r2, .inr (0, [.ref a2, .int n2])), (a2, .inl (cA, (100, .inl f2))), (r3, .inr (0, [.ref a3, .int n3])), (a3, .inl (cA, (100, .inl f3))), (y0, .inr (2, [.int 1, .int (nI rn), .ref q1, .ref q2, .int mn, .ref q3, .ref q4, .int ct, .int il, .ref q5])), (q1, .inl (cA, (2, .inl sf))), (q2, .inl (cA, (60, .inl lf))), (q3, .inl (cA, (320, .inl rf))), (q4, .inl (cA, (320, .inl nf))), (q5, .inl (cA, (6, .inl gf))), (o, .inl (cL, (1, .inr (.inl fo))))] := hD
    refine lv_istore (lv' := [(6, .int 0), (5, .int 1), (4, .int (nI i)), (3, .ref o), (2, .ref y0), (1, .ref x0), (0, .ref b)]) hx hb dL_law_155 hl (by decide) rfl (fun ls hl => ?_)
    refine lv_aload_n hx hb dL_law_157 rfl (lv_at hl 4 rfl) ?_
    refine g_RVi (As := []) (rest := []) ⟨hx, hb, hml, hown, hts⟩ (mt_X2_thrown l dC dI cA H.size y0 q1 q2 q3 q4 q5 rn 1 sf lf mn rf nf ct il gf) (cwV 0 hts gL_law_X2_thrown rfl rfl rfl hdX2_thrown ⟨Nat.le_of_ble_eq_true rfl, Nat.le_of_ble_eq_true rfl⟩) hP hK hD [9, 10, 11, 12, 13, 14] (by decide) rfl (va_recv hK hP (ci := 2) (q0 := 9) rfl rfl) rfl hl.1 rfl (Nat.le_of_ble_eq_true rfl) dL_law_158 hc1 hs1 ?_
    refine lv_iload hx hb dL_law_161 (lv_at hl 1 rfl) ?_
    refine lv_icmp_eq (tgt := 168) hx hb dL_law_163 (by decide) (fun c163 => ?_) (fun c163 => ?_)
    · refine lv_iload hx hb dL_law_168 (lv_at hl 1 rfl) ?_
      refine lv_if_ne (tgt := 185) hx hb dL_law_170 (by decide) (fun c170 => ?_) (fun c170 => ?_)
      · have c170 : ¬ 1 = 0 := g_neT 1 0 (by omega) (by omega) c170
        refine lv_goto (tgt := 1241) hx hb dL_law_185 (by decide) ?_
        exact kk rn L0 L1 _ _ _ _ _ ⟨f0, f1, n2, f2, n3, f3, 1, sf, lf, mn, rf, nf, ct, il, gf, fo, hP, hD, hS, hR0, hR1, hl0, hl1, hrn, hr6, hk0, hk1, hW⟩ (by omega) (by omega) (lv_sub hl [2, 3, 4, 5, 6] rfl)
      · exact absurd c170 (by decide)
    · exact absurd (by decide) c163
  · refine lv_aload_n hx hb dL_law_132 rfl (lv_at hl 3 rfl) ?_
    refine lv_aload_n hx hb dL_law_133 rfl (lv_at hl 4 rfl) ?_
    refine lv_iload hx hb dL_law_134 (lv_at hl 0 rfl) ?_
    refine lv_iconst (v := 1) hx hb dL_law_136 (by decide) ?_
    refine lv_iadd hx hb dL_law_137 ?_
    rw [show (nI i) + 1 = nI (i + 1) from nI_add i 1]
    refine va_sld hx hb hX hbl hbA hS (vp_in_nI (by omega) (by omega)) dL_law_138 ?_
    rw [show (nI (i + 1)).toNatClampNeg = i + 1 from nI_clamp (by omega)]
    rw [h1]
    refine lv_aload_n hx hb dL_law_139 rfl (lv_at hl 1 rfl) ?_
    refine g_LS (As := [.ref x0, .int (nI rq), .ref o]) (rest := []) ⟨hx, hb, hml, hown, hts⟩ (mt_L_setRopes l htr dC dI cA cL H.size x0 r0 r1 r2 r3 rn a0 a1 L0 f0 L1 f1 rq o fo h3 h6) (vx_cwSW 3 hts gL_law_L_setRopes rfl rfl rfl hdL_setRopes ⟨Nat.le_of_ble_eq_true rfl, Nat.le_of_ble_eq_true rfl⟩) hP hKl hD hS hA hZ [0, 1, 2, 3, 4, 15] (by decide) rfl rfl hl.1 rfl (Nat.le_of_ble_eq_true rfl) dL_law_140 hc0 hs0 (fun u9 => [(x0, .inr (1, [.ref r0, .ref r1, .ref r2, .ref r3, .int (nI rq)])), (r0, .inr (0, [.ref a0, .int (nI (([] : List Int32).length))])), (a0, .inl (cA, (100, .inl f0))), (r1, .inr (0, [.ref a1, .int (nI (([] : List Int32).length))])), (a1, .inl (cA, (100, .inl f1))), (r2, .inr (0, [.ref a2, .int n2])), (a2, .inl (cA, (100, .inl f2))), (r3, .inr (0, [.ref a3, .int n3])), (a3, .inl (cA, (100, .inl f3))), (y0, .inr (2, [.int tv, .int (nI rn), .ref q1, .ref q2, .int mn, .ref q3, .ref q4, .int ct, .int il, .ref q5])), (q1, .inl (cA, (2, .inl sf))), (q2, .inl (cA, (60, .inl lf))), (q3, .inl (cA, (320, .inl rf))), (q4, .inl (cA, (320, .inl nf))), (q5, .inl (cA, (6, .inl gf))), (o, .inl (cL, (1, .inr (.inl (vp_updL fo 0 (nI rn).toInt64)))))]) (fun _ => rfl) (fun _ => rfl) (fun u H locs hw_1 hP hD hS => ?_)
    have hP : va_P (dC, dI) vwCl [(x0, .inr (1, [.ref r0, .ref r1, .ref r2, .ref r3, .int (nI rq)])), (r0, .inr (0, [.ref a0, .int (nI (([] : List Int32).length))])), (a0, .inl (cA, (100, .inl f0))), (r1, .inr (0, [.ref a1, .int (nI (([] : List Int32).length))])), (a1, .inl (cA, (100, .inl f1))), (r2, .inr (0, [.ref a2, .int n2])), (a2, .inl (cA, (100, .inl f2))), (r3, .inr (0, [.ref a3, .int n3])), (a3, .inl (cA, (100, .inl f3))), (y0, .inr (2, [.int tv, .int (nI rn), .ref q1, .ref q2, .int mn, .ref q3, .ref q4, .int ct, .int il, .ref q5])), (q1, .inl (cA, (2, .inl sf))), (q2, .inl (cA, (60, .inl lf))), (q3, .inl (cA, (320, .inl rf))), (q4, .inl (cA, (320, .inl nf))), (q5, .inl (cA, (6, .inl gf))), (o, .inl (cL, (1, .inr (.inl (vp_updL fo 0 (nI rn).toInt64)))))] H := hP
    have hD : va_D A [(x0, .inr (1, [.ref r0, .ref r1, .ref r2, .ref r3, .int (nI rq)])), (r0, .inr (0, [.ref a0, .int (nI (([] : List Int32).length))])), (a0, .inl (cA, (100, .inl f0))), (r1, .inr (0, [.ref a1, .int (nI (([] : List Int32).length))])), (a1, .inl (cA, (100, .inl f1))), (r2, .inr (0, [.ref a2, .int n2])), (a2, .inl (cA, (100, .inl f2))), (r3, .inr (0, [.ref a3, .int n3])), (a3, .inl (cA, (100, .inl f3))), (y0, .inr (2, [.int tv, .int (nI rn), .ref q1, .ref q2, .int mn, .ref q3, .ref q4, .int ct, .int il, .ref q5])), (q1, .inl (cA, (2, .inl sf))), (q2, .inl (cA, (60, .inl lf))), (q3, .inl (cA, (320, .inl rf))), (q4, .inl (cA, (320, .inl nf))), (q5, .inl (cA, (6, .inl gf))), (o, .inl (cL, (1, .inr (.inl (vp_updL fo 0 (nI rn).toInt64)))))] := hD
    refine lv_istore (lv' := [(5, .int 0), (4, .int (nI i)), (3, .ref o), (2, .ref y0), (1, .ref x0), (0, .ref b)]) hx hb dL_law_143 hl (by decide) rfl (fun ls hl => ?_)
    refine lv_aload_n hx hb dL_law_145 rfl (lv_at hl 3 rfl) ?_
    refine lv_aload_n hx hb dL_law_146 rfl (lv_at hl 5 rfl) ?_
    refine lv_iload hx hb dL_law_147 (lv_at hl 1 rfl) ?_
    refine lv_iconst (v := 1) hx hb dL_law_149 (by decide) ?_
    refine lv_iadd hx hb dL_law_150 ?_
    rw [show (nI i) + 1 = nI (i + 1) from nI_add i 1]
    refine va_sld hx hb hX hbl hbA hS (vp_in_nI (by omega) (by omega)) dL_law_151 ?_
    rw [show (nI (i + 1)).toNatClampNeg = i + 1 from nI_clamp (by omega)]
    rw [h1]
    refine g_MVi (As := [.int (nI rq)]) (rest := []) ⟨hx, hb, hml, hown, hts⟩ (mt_X2_setRopes l dC dI cA H.size y0 q1 q2 q3 q4 q5 rn tv sf lf mn rf nf ct il gf rq h3 h6) (cwV 1 hts gL_law_X2_setRopes rfl rfl rfl hdX2_setRopes ⟨Nat.le_of_ble_eq_true rfl, Nat.le_of_ble_eq_true rfl⟩) hP hK hD hS hA [9, 10, 11, 12, 13, 14] (by decide) rfl (va_recv hK hP (ci := 2) (q0 := 9) rfl rfl) rfl hl.1 rfl (Nat.le_of_ble_eq_true rfl) dL_law_152 hc0 hs0 (fun u9 => [(x0, .inr (1, [.ref r0, .ref r1, .ref r2, .ref r3, .int (nI rq)])), (r0, .inr (0, [.ref a0, .int (nI (([] : List Int32).length))])), (a0, .inl (cA, (100, .inl f0))), (r1, .inr (0, [.ref a1, .int (nI (([] : List Int32).length))])), (a1, .inl (cA, (100, .inl f1))), (r2, .inr (0, [.ref a2, .int n2])), (a2, .inl (cA, (100, .inl f2))), (r3, .inr (0, [.ref a3, .int n3])), (a3, .inl (cA, (100, .inl f3))), (y0, .inr (2, [.int 0, .int (nI rq), .ref q1, .ref q2, .int mn, .ref q3, .ref q4, .int ct, .int il, .ref q5])), (q1, .inl (cA, (2, .inl u9))), (q2, .inl (cA, (60, .inl lf))), (q3, .inl (cA, (320, .inl rf))), (q4, .inl (cA, (320, .inl nf))), (q5, .inl (cA, (6, .inl gf))), (o, .inl (cL, (1, .inr (.inl (vp_updL fo 0 (nI rn).toInt64)))))]) (fun _ => rfl) (fun _ => rfl) (fun u H locs hw_3 hP hD hS => ?_)
    obtain ⟨s1_2, rfl⟩ : ∃ z, z = u := ⟨_, rfl⟩
    have hw_3 : MW (fun _ => []) s1_2 lf := hw_3
    have hP : va_P (dC, dI) vwCl [(x0, .inr (1, [.ref r0, .ref r1, .ref r2, .ref r3, .int (nI rq)])), (r0, .inr (0, [.ref a0, .int (nI (([] : List Int32).length))])), (a0, .inl (cA, (100, .inl f0))), (r1, .inr (0, [.ref a1, .int (nI (([] : List Int32).length))])), (a1, .inl (cA, (100, .inl f1))), (r2, .inr (0, [.ref a2, .int n2])), (a2, .inl (cA, (100, .inl f2))), (r3, .inr (0, [.ref a3, .int n3])), (a3, .inl (cA, (100, .inl f3))), (y0, .inr (2, [.int 0, .int (nI rq), .ref q1, .ref q2, .int mn, .ref q3, .ref q4, .int ct, .int il, .ref q5])), (q1, .inl (cA, (2, .inl s1_2))), (q2, .inl (cA, (60, .inl lf))), (q3, .inl (cA, (320, .inl rf))), (q4, .inl (cA, (320, .inl nf))), (q5, .inl (cA, (6, .inl gf))), (o, .inl (cL, (1, .inr (.inl (vp_updL fo 0 (nI rn).toInt64)))))] H := hP
    have hD : va_D A [(x0, .inr (1, [.ref r0, .ref r1, .ref r2, .ref r3, .int (nI rq)])), (r0, .inr (0, [.ref a0, .int (nI (([] : List Int32).length))])), (a0, .inl (cA, (100, .inl f0))), (r1, .inr (0, [.ref a1, .int (nI (([] : List Int32).length))])), (a1, .inl (cA, (100, .inl f1))), (r2, .inr (0, [.ref a2, .int n2])), (a2, .inl (cA, (100, .inl f2))), (r3, .inr (0, [.ref a3, .int n3])), (a3, .inl (cA, (100, .inl f3))), (y0, .inr (2, [.int 0, .int (nI rq), .ref q1, .ref q2, .int mn, .ref q3, .ref q4, .int ct, .int il, .ref q5])), (q1, .inl (cA, (2, .inl s1_2))), (q2, .inl (cA, (60, .inl lf))), (q3, .inl (cA, (320, .inl rf))), (q4, .inl (cA, (320, .inl nf))), (q5, .inl (cA, (6, .inl gf))), (o, .inl (cL, (1, .inr (.inl (vp_updL fo 0 (nI rn).toInt64)))))] := hD
    refine lv_istore (lv' := [(6, .int (nI rn)), (5, .int 0), (4, .int (nI i)), (3, .ref o), (2, .ref y0), (1, .ref x0), (0, .ref b)]) hx hb dL_law_155 hl (by decide) rfl (fun ls hl => ?_)
    refine lv_aload_n hx hb dL_law_157 rfl (lv_at hl 4 rfl) ?_
    refine g_RVi (As := []) (rest := []) ⟨hx, hb, hml, hown, hts⟩ (mt_X2_thrown l dC dI cA H.size y0 q1 q2 q3 q4 q5 rq 0 s1_2 lf mn rf nf ct il gf) (cwV 0 hts gL_law_X2_thrown rfl rfl rfl hdX2_thrown ⟨Nat.le_of_ble_eq_true rfl, Nat.le_of_ble_eq_true rfl⟩) hP hK hD [9, 10, 11, 12, 13, 14] (by decide) rfl (va_recv hK hP (ci := 2) (q0 := 9) rfl rfl) rfl hl.1 rfl (Nat.le_of_ble_eq_true rfl) dL_law_158 hc0 hs0 ?_
    refine lv_iload hx hb dL_law_161 (lv_at hl 1 rfl) ?_
    refine lv_icmp_eq (tgt := 168) hx hb dL_law_163 (by decide) (fun c163 => ?_) (fun c163 => ?_)
    · refine lv_iload hx hb dL_law_168 (lv_at hl 1 rfl) ?_
      refine lv_if_ne (tgt := 185) hx hb dL_law_170 (by decide) (fun c170 => ?_) (fun c170 => ?_)
      · exact absurd (by decide) c170
      · have c170 : 0 = 0 := g_neF 0 0 (by omega) (by omega) c170
        refine lv_aload_n hx hb dL_law_173 rfl (lv_at hl 3 rfl) ?_
        refine lv_iconst (v := 0) hx hb dL_law_174 (by decide) ?_
        refine va_lald hx hb hKl hP 15 1 rfl rfl (vp_in_nI (n := 0) (by omega) (by decide)) dL_law_175 ?_
        rw [show (0 : Int32).toNatClampNeg = 0 from by decide, pk_uLs]
        refine lv_iload hx hb dL_law_176 (lv_at hl 0 rfl) ?_
        refine lv_i2l (v := (nI rn).toInt64) hx hb dL_law_178 rfl ?_
        refine W.lcmp hx hb dL_law_179 ?_
        rw [show lg_cmp ((nI rn).toInt64) ((nI rn).toInt64) = 0 from (lg_cmp_eq _ _).mpr rfl]
        refine lv_if_eq (tgt := 185) hx hb dL_law_180 (by decide) (fun c180 => ?_) (fun c180 => ?_)
        · have c180 : 0 = 0 := g_eqT 0 0 (by omega) (by omega) c180
          refine lv_goto (tgt := 1241) hx hb dL_law_185 (by decide) ?_
          exact kk rq ([] : List Int32) ([] : List Int32) _ _ _ _ _ ⟨f0, f1, n2, f2, n3, f3, 0, s1_2, lf, mn, rf, nf, ct, il, gf, vp_updL fo 0 (nI rn).toInt64, hP, hD, hS, RI_nil, RI_nil, Nat.zero_le _, Nat.zero_le _, rn_in h3 h6, h6, okL_nil, okL_nil, MW_cn hw_3⟩ (by omega) (by omega) (lv_sub hl [2, 3, 4, 5, 6] rfl)
        · exact absurd (by decide) c180
    · exact absurd (by decide) c163

set_option maxHeartbeats 4000000 in
set_option maxRecDepth 100000 in
theorem lw_op_1 {p : Program} {l : Launch} {e : Env} {s : State} {m : MethodId} {below : List Frame} {meth : Method} {c : Code} {Q : State → Prop} {b L : Nat} {xs : Nat → Int32} {dC : Nat → ClassId} {dI : Nat → Nat → Nat} {cA cL : ClassId} {A : Nat → Prop} (E : lwE p l s m c b L xs dC dI cA cL A) {x0 r0 r1 r2 r3 a0 a1 a2 a3 y0 q1 q2 q3 q4 q5 o : Nat} {i : Nat} (hi : i + 4 ≤ L) {cells slots : Nat} (hC : cells + 1 ≤ 1053) (hS9 : slots + 6 ≤ 9402) {rn : Nat} {L0 L1 : List Int32} {H : Heap} {locs : List Loc} (hI : lwI dC dI cA cL A s.heap x0 r0 r1 r2 r3 a0 a1 a2 a3 y0 q1 q2 q3 q4 q5 o rn L0 L1 H locs) {ls : Array Slot} (hl : lv_has ls 9 [(4, .int (nI i)), (3, .ref o), (2, .ref y0), (1, .ref x0), (0, .ref b)])
    (kk : ∀ (rn : Nat) (L0 L1 : List Int32) (H : Heap) (locs : List Loc) (cells1 slots1 : Nat) (ls : Array Slot), lwI dC dI cA cL A s.heap x0 r0 r1 r2 r3 a0 a1 a2 a3 y0 q1 q2 q3 q4 q5 o rn L0 L1 H locs → cells1 ≤ cells + 1 → slots1 ≤ slots + 6 → lv_has ls 9 [(4, .int (nI i)), (3, .ref o), (2, .ref y0), (1, .ref x0), (0, .ref b)] → W p l e room_1 s m #[Value.ref b] below meth c H locs cells1 slots1 Q (F0 m 1241 ls [])) :
    W p l e room_1 s m #[Value.ref b] below meth c H locs cells slots Q (F0 m 188 ls []) := by
  obtain ⟨hx, hb, hml, hown, hts, hX, hbl, hbA, hA, htr, hKl, hZ, hL2⟩ := E
  obtain ⟨f0, f1, n2, f2, n3, f3, tv, sf, lf, mn, rf, nf, ct, il, gf, fo, hP, hD, hS, hR0, hR1, hl0, hl1, hrn, hr6, hk0, hk1, hW⟩ := hI
  have hK : va_K (dC, dI) vwCl [(cA, .int)] s := hKl.sub [0] rfl
  have hok := V2_ok hk0 hk1
  have hc0 : cells ≤ room_1.cells := (show cells ≤ 1053 from by omega)
  have hs0 : slots ≤ room_1.slots := (show slots ≤ 9402 from by omega)
  have hc1 : cells + 1 ≤ room_1.cells := hC
  have hs1 : slots + 6 ≤ room_1.slots := hS9
  rcases wd_ix (xs (i + 1)) with hbad | h1 | h1
  · refine lv_aload_n hx hb dL_law_188 rfl (lv_at hl 3 rfl) ?_
    refine lv_aload_n hx hb dL_law_189 rfl (lv_at hl 4 rfl) ?_
    refine lv_iload hx hb dL_law_190 (lv_at hl 0 rfl) ?_
    refine lv_iconst (v := 1) hx hb dL_law_192 (by decide) ?_
    refine lv_iadd hx hb dL_law_193 ?_
    rw [show (nI i) + 1 = nI (i + 1) from nI_add i 1]
    refine va_sld hx hb hX hbl hbA hS (vp_in_nI (by omega) (by omega)) dL_law_194 ?_
    rw [show (nI (i + 1)).toNatClampNeg = i + 1 from nI_clamp (by omega)]
    refine lv_aload_n hx hb dL_law_195 rfl (lv_at hl 4 rfl) ?_
    refine lv_iload hx hb dL_law_196 (lv_at hl 0 rfl) ?_
    refine lv_iconst (v := 2) hx hb dL_law_198 (by decide) ?_
    refine lv_iadd hx hb dL_law_199 ?_
    rw [show (nI i) + 2 = nI (i + 2) from nI_add i 2]
    refine va_sld hx hb hX hbl hbA hS (vp_in_nI (by omega) (by omega)) dL_law_200 ?_
    rw [show (nI (i + 2)).toNatClampNeg = i + 2 from nI_clamp (by omega)]
    refine lv_aload_n hx hb dL_law_201 rfl (lv_at hl 1 rfl) ?_
    refine g_LS (As := [.ref x0, .int (xs (i + 1)), .int (xs (i + 2)), .ref o]) (rest := []) ⟨hx, hb, hml, hown, hts⟩ (mt_L_twist_1 l htr dC dI cA cL H.size x0 (xs (i + 1)) (xs (i + 2)) r0 r1 r2 r3 (nI rn) o fo hbad) (vx_cwSW 4 hts gL_law_L_twist rfl rfl rfl hdL_twist ⟨Nat.le_of_ble_eq_true rfl, Nat.le_of_ble_eq_true rfl⟩) hP hKl hD hS hA hZ [0, 15] (by decide) rfl rfl hl.1 rfl (Nat.le_of_ble_eq_true rfl) dL_law_202 hc1 hs1 (fun u9 => [(x0, .inr (1, [.ref r0, .ref r1, .ref r2, .ref r3, .int (nI rn)])), (r0, .inr (0, [.ref a0, .int (nI L0.length)])), (a0, .inl (cA, (100, .inl f0))), (r1, .inr (0, [.ref a1, .int (nI L1.length)])), (a1, .inl (cA, (100, .inl f1))), (r2, .inr (0, [.ref a2, .int n2])), (a2, .inl (cA, (100, .inl f2))), (r3, .inr (0, [.ref a3, .int n3])), (a3, .inl (cA, (100, .inl f3))), (y0, .inr (2, [.int tv, .int (nI rn), .ref q1, .ref q2, .int mn, .ref q3, .ref q4, .int ct, .int il, .ref q5])), (q1, .inl (cA, (2, .inl sf))), (q2, .inl (cA, (60, .inl lf))), (q3, .inl (cA, (320, .inl rf))), (q4, .inl (cA, (320, .inl nf))), (q5, .inl (cA, (6, .inl gf))), (o, .inl (cL, (1, .inr (.inl fo))))]) (fun _ => rfl) (fun _ => rfl) (fun u H locs hw_1 hP hD hS => ?_)
    have hP : va_P (dC, dI) vwCl [(x0, .inr (1, [.ref r0, .ref r1, .ref r2, .ref r3, .int (nI rn)])), (r0, .inr (0, [.ref a0, .int (nI L0.length)])), (a0, .inl (cA, (100, .inl f0))), (r1, .inr (0, [.ref a1, .int (nI L1.length)])), (a1, .inl (cA, (100, .inl f1))), (r2, .inr (0, [.ref a2, .int n2])), (a2, .inl (cA, (100, .inl f2))), (r3, .inr (0, [.ref a3, .int n3])), (a3, .inl (cA, (100, .inl f3))), (y0, .inr (2, [.int tv, .int (nI rn), .ref q1, .ref q2, .int mn, .ref q3, .ref q4, .int ct, .int il, .ref q5])), (q1, .inl (cA, (2, .inl sf))), (q2, .inl (cA, (60, .inl lf))), (q3, .inl (cA, (320, .inl rf))), (q4, .inl (cA, (320, .inl nf))), (q5, .inl (cA, (6, .inl gf))), (o, .inl (cL, (1, .inr (.inl fo))))] H := hP
    have hD : va_D A [(x0, .inr (1, [.ref r0, .ref r1, .ref r2, .ref r3, .int (nI rn)])), (r0, .inr (0, [.ref a0, .int (nI L0.length)])), (a0, .inl (cA, (100, .inl f0))), (r1, .inr (0, [.ref a1, .int (nI L1.length)])), (a1, .inl (cA, (100, .inl f1))), (r2, .inr (0, [.ref a2, .int n2])), (a2, .inl (cA, (100, .inl f2))), (r3, .inr (0, [.ref a3, .int n3])), (a3, .inl (cA, (100, .inl f3))), (y0, .inr (2, [.int tv, .int (nI rn), .ref q1, .ref q2, .int mn, .ref q3, .ref q4, .int ct, .int il, .ref q5])), (q1, .inl (cA, (2, .inl sf))), (q2, .inl (cA, (60, .inl lf))), (q3, .inl (cA, (320, .inl rf))), (q4, .inl (cA, (320, .inl nf))), (q5, .inl (cA, (6, .inl gf))), (o, .inl (cL, (1, .inr (.inl fo))))] := hD
    refine lv_istore (lv' := [(5, .int 1), (4, .int (nI i)), (3, .ref o), (2, .ref y0), (1, .ref x0), (0, .ref b)]) hx hb dL_law_205 hl (by decide) rfl (fun ls hl => ?_)
    refine lv_aload_n hx hb dL_law_207 rfl (lv_at hl 3 rfl) ?_
    refine lv_aload_n hx hb dL_law_208 rfl (lv_at hl 5 rfl) ?_
    refine lv_iload hx hb dL_law_209 (lv_at hl 1 rfl) ?_
    refine lv_iconst (v := 1) hx hb dL_law_211 (by decide) ?_
    refine lv_iadd hx hb dL_law_212 ?_
    rw [show (nI i) + 1 = nI (i + 1) from nI_add i 1]
    refine va_sld hx hb hX hbl hbA hS (vp_in_nI (by omega) (by omega)) dL_law_213 ?_
    rw [show (nI (i + 1)).toNatClampNeg = i + 1 from nI_clamp (by omega)]
    refine lv_aload_n hx hb dL_law_214 rfl (lv_at hl 5 rfl) ?_
    refine lv_iload hx hb dL_law_215 (lv_at hl 1 rfl) ?_
    refine lv_iconst (v := 2) hx hb dL_law_217 (by decide) ?_
    refine lv_iadd hx hb dL_law_218 ?_
    rw [show (nI i) + 2 = nI (i + 2) from nI_add i 2]
    refine va_sld hx hb hX hbl hbA hS (vp_in_nI (by omega) (by omega)) dL_law_219 ?_
    rw [show (nI (i + 2)).toNatClampNeg = i + 2 from nI_clamp (by omega)]
    refine g_MVi (As := [.int (xs (i + 1)), .int (xs (i + 2))]) (rest := []) ⟨hx, hb, hml, hown, hts⟩ (mt_X2_twist_1 l dC dI cA H.size y0 q1 q2 q3 q4 q5 rn tv sf lf mn rf nf ct il gf (xs (i + 1)) (xs (i + 2)) hbad) (cwV 2 hts gL_law_X2_twist rfl rfl rfl hdX2_twist ⟨Nat.le_of_ble_eq_true rfl, Nat.le_of_ble_eq_true rfl⟩) hP hK hD hS hA [9, 10, 11, 12, 13, 14] (by decide) rfl (va_recv hK hP (ci := 2) (q0 := 9) rfl rfl) rfl hl.1 rfl (Nat.le_of_ble_eq_true rfl) dL_law_220 hc1 hs1 (fun u9 => [(x0, .inr (1, [.ref r0, .ref r1, .ref r2, .ref r3, .int (nI rn)])), (r0, .inr (0, [.ref a0, .int (nI L0.length)])), (a0, .inl (cA, (100, .inl f0))), (r1, .inr (0, [.ref a1, .int (nI L1.length)])), (a1, .inl (cA, (100, .inl f1))), (r2, .inr (0, [.ref a2, .int n2])), (a2, .inl (cA, (100, .inl f2))), (r3, .inr (0, [.ref a3, .int n3])), (a3, .inl (cA, (100, .inl f3))), (y0, .inr (2, [.int 1, .int (nI rn), .ref q1, .ref q2, .int mn, .ref q3, .ref q4, .int ct, .int il, .ref q5])), (q1, .inl (cA, (2, .inl sf))), (q2, .inl (cA, (60, .inl lf))), (q3, .inl (cA, (320, .inl rf))), (q4, .inl (cA, (320, .inl nf))), (q5, .inl (cA, (6, .inl gf))), (o, .inl (cL, (1, .inr (.inl fo))))]) (fun _ => rfl) (fun _ => rfl) (fun u H locs hw_2 hP hD hS => ?_)
    have hw_2 : True := hw_2
    have hP : va_P (dC, dI) vwCl [(x0, .inr (1, [.ref r0, .ref r1, .ref r2, .ref r3, .int (nI rn)])), (r0, .inr (0, [.ref a0, .int (nI L0.length)])), (a0, .inl (cA, (100, .inl f0))), (r1, .inr (0, [.ref a1, .int (nI L1.length)])), (a1, .inl (cA, (100, .inl f1))), (r2, .inr (0, [.ref a2, .int n2])), (a2, .inl (cA, (100, .inl f2))), (r3, .inr (0, [.ref a3, .int n3])), (a3, .inl (cA, (100, .inl f3))), (y0, .inr (2, [.int 1, .int (nI rn), .ref q1, .ref q2, .int mn, .ref q3, .ref q4, .int ct, .int il, .ref q5])), (q1, .inl (cA, (2, .inl sf))), (q2, .inl (cA, (60, .inl lf))), (q3, .inl (cA, (320, .inl rf))), (q4, .inl (cA, (320, .inl nf))), (q5, .inl (cA, (6, .inl gf))), (o, .inl (cL, (1, .inr (.inl fo))))] H := hP
    have hD : va_D A [(x0, .inr (1, [.ref r0, .ref r1, .ref r2, .ref r3, .int (nI rn)])), (r0, .inr (0, [.ref a0, .int (nI L0.length)])), (a0, .inl (cA, (100, .inl f0))), (r1, .inr (0, [.ref a1, .int (nI L1.length)])), (a1, .inl (cA, (100, .inl f1))), (r2, .inr (0, [.ref a2, .int n2])), (a2, .inl (cA, (100, .inl f2))), (r3, .inr (0, [.ref a3, .int n3])), (a3, .inl (cA, (100, .inl f3))), (y0, .inr (2, [.int 1, .int (nI rn), .ref q1, .ref q2, .int mn, .ref q3, .ref q4, .int ct, .int il, .ref q5])), (q1, .inl (cA, (2, .inl sf))), (q2, .inl (cA, (60, .inl lf))), (q3, .inl (cA, (320, .inl rf))), (q4, .inl (cA, (320, .inl nf))), (q5, .inl (cA, (6, .inl gf))), (o, .inl (cL, (1, .inr (.inl fo))))] := hD
    refine lv_istore (lv' := [(6, .int 0), (5, .int 1), (4, .int (nI i)), (3, .ref o), (2, .ref y0), (1, .ref x0), (0, .ref b)]) hx hb dL_law_223 hl (by decide) rfl (fun ls hl => ?_)
    refine lv_aload_n hx hb dL_law_225 rfl (lv_at hl 4 rfl) ?_
    refine g_RVi (As := []) (rest := []) ⟨hx, hb, hml, hown, hts⟩ (mt_X2_thrown l dC dI cA H.size y0 q1 q2 q3 q4 q5 rn 1 sf lf mn rf nf ct il gf) (cwV 0 hts gL_law_X2_thrown rfl rfl rfl hdX2_thrown ⟨Nat.le_of_ble_eq_true rfl, Nat.le_of_ble_eq_true rfl⟩) hP hK hD [9, 10, 11, 12, 13, 14] (by decide) rfl (va_recv hK hP (ci := 2) (q0 := 9) rfl rfl) rfl hl.1 rfl (Nat.le_of_ble_eq_true rfl) dL_law_226 hc1 hs1 ?_
    refine lv_iload hx hb dL_law_229 (lv_at hl 1 rfl) ?_
    refine lv_icmp_eq (tgt := 236) hx hb dL_law_231 (by decide) (fun c231 => ?_) (fun c231 => ?_)
    · refine lv_iload hx hb dL_law_236 (lv_at hl 1 rfl) ?_
      refine lv_if_ne (tgt := 253) hx hb dL_law_238 (by decide) (fun c238 => ?_) (fun c238 => ?_)
      · have c238 : ¬ 1 = 0 := g_neT 1 0 (by omega) (by omega) c238
        refine lv_goto (tgt := 1241) hx hb dL_law_253 (by decide) ?_
        exact kk rn L0 L1 _ _ _ _ _ ⟨f0, f1, n2, f2, n3, f3, 1, sf, lf, mn, rf, nf, ct, il, gf, fo, hP, hD, hS, hR0, hR1, hl0, hl1, hrn, hr6, hk0, hk1, hW⟩ (by omega) (by omega) (lv_sub hl [2, 3, 4, 5, 6] rfl)
      · exact absurd c238 (by decide)
    · exact absurd (by decide) c231
  · rcases lt_ix rn (xs (i + 2)) with hbad | ⟨h0, hh1, hh2⟩
    · refine lv_aload_n hx hb dL_law_188 rfl (lv_at hl 3 rfl) ?_
      refine lv_aload_n hx hb dL_law_189 rfl (lv_at hl 4 rfl) ?_
      refine lv_iload hx hb dL_law_190 (lv_at hl 0 rfl) ?_
      refine lv_iconst (v := 1) hx hb dL_law_192 (by decide) ?_
      refine lv_iadd hx hb dL_law_193 ?_
      rw [show (nI i) + 1 = nI (i + 1) from nI_add i 1]
      refine va_sld hx hb hX hbl hbA hS (vp_in_nI (by omega) (by omega)) dL_law_194 ?_
      rw [show (nI (i + 1)).toNatClampNeg = i + 1 from nI_clamp (by omega)]
      rw [h1]
      refine lv_aload_n hx hb dL_law_195 rfl (lv_at hl 4 rfl) ?_
      refine lv_iload hx hb dL_law_196 (lv_at hl 0 rfl) ?_
      refine lv_iconst (v := 2) hx hb dL_law_198 (by decide) ?_
      refine lv_iadd hx hb dL_law_199 ?_
      rw [show (nI i) + 2 = nI (i + 2) from nI_add i 2]
      refine va_sld hx hb hX hbl hbA hS (vp_in_nI (by omega) (by omega)) dL_law_200 ?_
      rw [show (nI (i + 2)).toNatClampNeg = i + 2 from nI_clamp (by omega)]
      refine lv_aload_n hx hb dL_law_201 rfl (lv_at hl 1 rfl) ?_
      refine g_LS (As := [.ref x0, .int (nI 0), .int (xs (i + 2)), .ref o]) (rest := []) ⟨hx, hb, hml, hown, hts⟩ (mt_L_twist_2_0 l htr dC dI cA cL H.size x0 r0 r1 r2 r3 rn (xs (i + 2)) o fo hbad) (vx_cwSW 4 hts gL_law_L_twist rfl rfl rfl hdL_twist ⟨Nat.le_of_ble_eq_true rfl, Nat.le_of_ble_eq_true rfl⟩) hP hKl hD hS hA hZ [0, 15] (by decide) rfl rfl hl.1 rfl (Nat.le_of_ble_eq_true rfl) dL_law_202 hc1 hs1 (fun u9 => [(x0, .inr (1, [.ref r0, .ref r1, .ref r2, .ref r3, .int (nI rn)])), (r0, .inr (0, [.ref a0, .int (nI L0.length)])), (a0, .inl (cA, (100, .inl f0))), (r1, .inr (0, [.ref a1, .int (nI L1.length)])), (a1, .inl (cA, (100, .inl f1))), (r2, .inr (0, [.ref a2, .int n2])), (a2, .inl (cA, (100, .inl f2))), (r3, .inr (0, [.ref a3, .int n3])), (a3, .inl (cA, (100, .inl f3))), (y0, .inr (2, [.int tv, .int (nI rn), .ref q1, .ref q2, .int mn, .ref q3, .ref q4, .int ct, .int il, .ref q5])), (q1, .inl (cA, (2, .inl sf))), (q2, .inl (cA, (60, .inl lf))), (q3, .inl (cA, (320, .inl rf))), (q4, .inl (cA, (320, .inl nf))), (q5, .inl (cA, (6, .inl gf))), (o, .inl (cL, (1, .inr (.inl fo))))]) (fun _ => rfl) (fun _ => rfl) (fun u H locs hw_1 hP hD hS => ?_)
      have hP : va_P (dC, dI) vwCl [(x0, .inr (1, [.ref r0, .ref r1, .ref r2, .ref r3, .int (nI rn)])), (r0, .inr (0, [.ref a0, .int (nI L0.length)])), (a0, .inl (cA, (100, .inl f0))), (r1, .inr (0, [.ref a1, .int (nI L1.length)])), (a1, .inl (cA, (100, .inl f1))), (r2, .inr (0, [.ref a2, .int n2])), (a2, .inl (cA, (100, .inl f2))), (r3, .inr (0, [.ref a3, .int n3])), (a3, .inl (cA, (100, .inl f3))), (y0, .inr (2, [.int tv, .int (nI rn), .ref q1, .ref q2, .int mn, .ref q3, .ref q4, .int ct, .int il, .ref q5])), (q1, .inl (cA, (2, .inl sf))), (q2, .inl (cA, (60, .inl lf))), (q3, .inl (cA, (320, .inl rf))), (q4, .inl (cA, (320, .inl nf))), (q5, .inl (cA, (6, .inl gf))), (o, .inl (cL, (1, .inr (.inl fo))))] H := hP
      have hD : va_D A [(x0, .inr (1, [.ref r0, .ref r1, .ref r2, .ref r3, .int (nI rn)])), (r0, .inr (0, [.ref a0, .int (nI L0.length)])), (a0, .inl (cA, (100, .inl f0))), (r1, .inr (0, [.ref a1, .int (nI L1.length)])), (a1, .inl (cA, (100, .inl f1))), (r2, .inr (0, [.ref a2, .int n2])), (a2, .inl (cA, (100, .inl f2))), (r3, .inr (0, [.ref a3, .int n3])), (a3, .inl (cA, (100, .inl f3))), (y0, .inr (2, [.int tv, .int (nI rn), .ref q1, .ref q2, .int mn, .ref q3, .ref q4, .int ct, .int il, .ref q5])), (q1, .inl (cA, (2, .inl sf))), (q2, .inl (cA, (60, .inl lf))), (q3, .inl (cA, (320, .inl rf))), (q4, .inl (cA, (320, .inl nf))), (q5, .inl (cA, (6, .inl gf))), (o, .inl (cL, (1, .inr (.inl fo))))] := hD
      refine lv_istore (lv' := [(5, .int 2), (4, .int (nI i)), (3, .ref o), (2, .ref y0), (1, .ref x0), (0, .ref b)]) hx hb dL_law_205 hl (by decide) rfl (fun ls hl => ?_)
      refine lv_aload_n hx hb dL_law_207 rfl (lv_at hl 3 rfl) ?_
      refine lv_aload_n hx hb dL_law_208 rfl (lv_at hl 5 rfl) ?_
      refine lv_iload hx hb dL_law_209 (lv_at hl 1 rfl) ?_
      refine lv_iconst (v := 1) hx hb dL_law_211 (by decide) ?_
      refine lv_iadd hx hb dL_law_212 ?_
      rw [show (nI i) + 1 = nI (i + 1) from nI_add i 1]
      refine va_sld hx hb hX hbl hbA hS (vp_in_nI (by omega) (by omega)) dL_law_213 ?_
      rw [show (nI (i + 1)).toNatClampNeg = i + 1 from nI_clamp (by omega)]
      rw [h1]
      refine lv_aload_n hx hb dL_law_214 rfl (lv_at hl 5 rfl) ?_
      refine lv_iload hx hb dL_law_215 (lv_at hl 1 rfl) ?_
      refine lv_iconst (v := 2) hx hb dL_law_217 (by decide) ?_
      refine lv_iadd hx hb dL_law_218 ?_
      rw [show (nI i) + 2 = nI (i + 2) from nI_add i 2]
      refine va_sld hx hb hX hbl hbA hS (vp_in_nI (by omega) (by omega)) dL_law_219 ?_
      rw [show (nI (i + 2)).toNatClampNeg = i + 2 from nI_clamp (by omega)]
      refine g_MVi (As := [.int (nI 0), .int (xs (i + 2))]) (rest := []) ⟨hx, hb, hml, hown, hts⟩ (mt_X2_twist_2 l dC dI cA H.size y0 q1 q2 q3 q4 q5 rn tv sf lf mn rf nf ct il gf (V2 L0 L1) 0 (xs (i + 2)) hW (by omega) hrn hbad) (cwV 2 hts gL_law_X2_twist rfl rfl rfl hdX2_twist ⟨Nat.le_of_ble_eq_true rfl, Nat.le_of_ble_eq_true rfl⟩) hP hK hD hS hA [9, 10, 11, 12, 13, 14] (by decide) rfl (va_recv hK hP (ci := 2) (q0 := 9) rfl rfl) rfl hl.1 rfl (Nat.le_of_ble_eq_true rfl) dL_law_220 hc1 hs1 (fun u9 => [(x0, .inr (1, [.ref r0, .ref r1, .ref r2, .ref r3, .int (nI rn)])), (r0, .inr (0, [.ref a0, .int (nI L0.length)])), (a0, .inl (cA, (100, .inl f0))), (r1, .inr (0, [.ref a1, .int (nI L1.length)])), (a1, .inl (cA, (100, .inl f1))), (r2, .inr (0, [.ref a2, .int n2])), (a2, .inl (cA, (100, .inl f2))), (r3, .inr (0, [.ref a3, .int n3])), (a3, .inl (cA, (100, .inl f3))), (y0, .inr (2, [.int 2, .int (nI rn), .ref q1, .ref q2, .int mn, .ref q3, .ref q4, .int ct, .int il, .ref q5])), (q1, .inl (cA, (2, .inl sf))), (q2, .inl (cA, (60, .inl lf))), (q3, .inl (cA, (320, .inl rf))), (q4, .inl (cA, (320, .inl nf))), (q5, .inl (cA, (6, .inl gf))), (o, .inl (cL, (1, .inr (.inl fo))))]) (fun _ => rfl) (fun _ => rfl) (fun u H locs hw_2 hP hD hS => ?_)
      have hw_2 : True := hw_2
      have hP : va_P (dC, dI) vwCl [(x0, .inr (1, [.ref r0, .ref r1, .ref r2, .ref r3, .int (nI rn)])), (r0, .inr (0, [.ref a0, .int (nI L0.length)])), (a0, .inl (cA, (100, .inl f0))), (r1, .inr (0, [.ref a1, .int (nI L1.length)])), (a1, .inl (cA, (100, .inl f1))), (r2, .inr (0, [.ref a2, .int n2])), (a2, .inl (cA, (100, .inl f2))), (r3, .inr (0, [.ref a3, .int n3])), (a3, .inl (cA, (100, .inl f3))), (y0, .inr (2, [.int 2, .int (nI rn), .ref q1, .ref q2, .int mn, .ref q3, .ref q4, .int ct, .int il, .ref q5])), (q1, .inl (cA, (2, .inl sf))), (q2, .inl (cA, (60, .inl lf))), (q3, .inl (cA, (320, .inl rf))), (q4, .inl (cA, (320, .inl nf))), (q5, .inl (cA, (6, .inl gf))), (o, .inl (cL, (1, .inr (.inl fo))))] H := hP
      have hD : va_D A [(x0, .inr (1, [.ref r0, .ref r1, .ref r2, .ref r3, .int (nI rn)])), (r0, .inr (0, [.ref a0, .int (nI L0.length)])), (a0, .inl (cA, (100, .inl f0))), (r1, .inr (0, [.ref a1, .int (nI L1.length)])), (a1, .inl (cA, (100, .inl f1))), (r2, .inr (0, [.ref a2, .int n2])), (a2, .inl (cA, (100, .inl f2))), (r3, .inr (0, [.ref a3, .int n3])), (a3, .inl (cA, (100, .inl f3))), (y0, .inr (2, [.int 2, .int (nI rn), .ref q1, .ref q2, .int mn, .ref q3, .ref q4, .int ct, .int il, .ref q5])), (q1, .inl (cA, (2, .inl sf))), (q2, .inl (cA, (60, .inl lf))), (q3, .inl (cA, (320, .inl rf))), (q4, .inl (cA, (320, .inl nf))), (q5, .inl (cA, (6, .inl gf))), (o, .inl (cL, (1, .inr (.inl fo))))] := hD
      refine lv_istore (lv' := [(6, .int 0), (5, .int 2), (4, .int (nI i)), (3, .ref o), (2, .ref y0), (1, .ref x0), (0, .ref b)]) hx hb dL_law_223 hl (by decide) rfl (fun ls hl => ?_)
      refine lv_aload_n hx hb dL_law_225 rfl (lv_at hl 4 rfl) ?_
      refine g_RVi (As := []) (rest := []) ⟨hx, hb, hml, hown, hts⟩ (mt_X2_thrown l dC dI cA H.size y0 q1 q2 q3 q4 q5 rn 2 sf lf mn rf nf ct il gf) (cwV 0 hts gL_law_X2_thrown rfl rfl rfl hdX2_thrown ⟨Nat.le_of_ble_eq_true rfl, Nat.le_of_ble_eq_true rfl⟩) hP hK hD [9, 10, 11, 12, 13, 14] (by decide) rfl (va_recv hK hP (ci := 2) (q0 := 9) rfl rfl) rfl hl.1 rfl (Nat.le_of_ble_eq_true rfl) dL_law_226 hc1 hs1 ?_
      refine lv_iload hx hb dL_law_229 (lv_at hl 1 rfl) ?_
      refine lv_icmp_eq (tgt := 236) hx hb dL_law_231 (by decide) (fun c231 => ?_) (fun c231 => ?_)
      · refine lv_iload hx hb dL_law_236 (lv_at hl 1 rfl) ?_
        refine lv_if_ne (tgt := 253) hx hb dL_law_238 (by decide) (fun c238 => ?_) (fun c238 => ?_)
        · have c238 : ¬ 2 = 0 := g_neT 2 0 (by omega) (by omega) c238
          refine lv_goto (tgt := 1241) hx hb dL_law_253 (by decide) ?_
          exact kk rn L0 L1 _ _ _ _ _ ⟨f0, f1, n2, f2, n3, f3, 2, sf, lf, mn, rf, nf, ct, il, gf, fo, hP, hD, hS, hR0, hR1, hl0, hl1, hrn, hr6, hk0, hk1, hW⟩ (by omega) (by omega) (lv_sub hl [2, 3, 4, 5, 6] rfl)
        · exact absurd c238 (by decide)
      · exact absurd (by decide) c231
    · by_cases hk : L0.length < 30
      · refine lv_aload_n hx hb dL_law_188 rfl (lv_at hl 3 rfl) ?_
        refine lv_aload_n hx hb dL_law_189 rfl (lv_at hl 4 rfl) ?_
        refine lv_iload hx hb dL_law_190 (lv_at hl 0 rfl) ?_
        refine lv_iconst (v := 1) hx hb dL_law_192 (by decide) ?_
        refine lv_iadd hx hb dL_law_193 ?_
        rw [show (nI i) + 1 = nI (i + 1) from nI_add i 1]
        refine va_sld hx hb hX hbl hbA hS (vp_in_nI (by omega) (by omega)) dL_law_194 ?_
        rw [show (nI (i + 1)).toNatClampNeg = i + 1 from nI_clamp (by omega)]
        rw [h1]
        refine lv_aload_n hx hb dL_law_195 rfl (lv_at hl 4 rfl) ?_
        refine lv_iload hx hb dL_law_196 (lv_at hl 0 rfl) ?_
        refine lv_iconst (v := 2) hx hb dL_law_198 (by decide) ?_
        refine lv_iadd hx hb dL_law_199 ?_
        rw [show (nI i) + 2 = nI (i + 2) from nI_add i 2]
        refine va_sld hx hb hX hbl hbA hS (vp_in_nI (by omega) (by omega)) dL_law_200 ?_
        rw [show (nI (i + 2)).toNatClampNeg = i + 2 from nI_clamp (by omega)]
        refine lv_aload_n hx hb dL_law_201 rfl (lv_at hl 1 rfl) ?_
        refine g_LS (As := [.ref x0, .int (nI 0), .int (xs (i + 2)), .ref o]) (rest := []) ⟨hx, hb, hml, hown, hts⟩ (mt_L_twist0 l htr dC dI cA cL H.size x0 r0 r1 r2 r3 rn a0 L0 f0 (xs (i + 2)) o fo hR0 h0 hh1 hh2 hk) (vx_cwSW 4 hts gL_law_L_twist rfl rfl rfl hdL_twist ⟨Nat.le_of_ble_eq_true rfl, Nat.le_of_ble_eq_true rfl⟩) hP hKl hD hS hA hZ [0, 1, 2, 15] (by decide) rfl rfl hl.1 rfl (Nat.le_of_ble_eq_true rfl) dL_law_202 hc0 hs0 (fun u9 => [(x0, .inr (1, [.ref r0, .ref r1, .ref r2, .ref r3, .int (nI rn)])), (r0, .inr (0, [.ref a0, .int (nI ((L0 ++ [(xs (i + 2))]).length))])), (a0, .inl (cA, (100, .inl u9))), (r1, .inr (0, [.ref a1, .int (nI L1.length)])), (a1, .inl (cA, (100, .inl f1))), (r2, .inr (0, [.ref a2, .int n2])), (a2, .inl (cA, (100, .inl f2))), (r3, .inr (0, [.ref a3, .int n3])), (a3, .inl (cA, (100, .inl f3))), (y0, .inr (2, [.int tv, .int (nI rn), .ref q1, .ref q2, .int mn, .ref q3, .ref q4, .int ct, .int il, .ref q5])), (q1, .inl (cA, (2, .inl sf))), (q2, .inl (cA, (60, .inl lf))), (q3, .inl (cA, (320, .inl rf))), (q4, .inl (cA, (320, .inl nf))), (q5, .inl (cA, (6, .inl gf))), (o, .inl (cL, (1, .inr (.inl (vp_updL fo 0 (nI ((L0 ++ [(xs (i + 2))]).length)).toInt64)))))]) (fun _ => rfl) (fun _ => rfl) (fun u H locs hw_2 hP hD hS => ?_)
        obtain ⟨f1_1, rfl⟩ : ∃ z, z = u := ⟨_, rfl⟩
        have hw_2 : RI (L0 ++ [(xs (i + 2))]) f1_1 := hw_2
        have hP : va_P (dC, dI) vwCl [(x0, .inr (1, [.ref r0, .ref r1, .ref r2, .ref r3, .int (nI rn)])), (r0, .inr (0, [.ref a0, .int (nI ((L0 ++ [(xs (i + 2))]).length))])), (a0, .inl (cA, (100, .inl f1_1))), (r1, .inr (0, [.ref a1, .int (nI L1.length)])), (a1, .inl (cA, (100, .inl f1))), (r2, .inr (0, [.ref a2, .int n2])), (a2, .inl (cA, (100, .inl f2))), (r3, .inr (0, [.ref a3, .int n3])), (a3, .inl (cA, (100, .inl f3))), (y0, .inr (2, [.int tv, .int (nI rn), .ref q1, .ref q2, .int mn, .ref q3, .ref q4, .int ct, .int il, .ref q5])), (q1, .inl (cA, (2, .inl sf))), (q2, .inl (cA, (60, .inl lf))), (q3, .inl (cA, (320, .inl rf))), (q4, .inl (cA, (320, .inl nf))), (q5, .inl (cA, (6, .inl gf))), (o, .inl (cL, (1, .inr (.inl (vp_updL fo 0 (nI ((L0 ++ [(xs (i + 2))]).length)).toInt64)))))] H := hP
        have hD : va_D A [(x0, .inr (1, [.ref r0, .ref r1, .ref r2, .ref r3, .int (nI rn)])), (r0, .inr (0, [.ref a0, .int (nI ((L0 ++ [(xs (i + 2))]).length))])), (a0, .inl (cA, (100, .inl f1_1))), (r1, .inr (0, [.ref a1, .int (nI L1.length)])), (a1, .inl (cA, (100, .inl f1))), (r2, .inr (0, [.ref a2, .int n2])), (a2, .inl (cA, (100, .inl f2))), (r3, .inr (0, [.ref a3, .int n3])), (a3, .inl (cA, (100, .inl f3))), (y0, .inr (2, [.int tv, .int (nI rn), .ref q1, .ref q2, .int mn, .ref q3, .ref q4, .int ct, .int il, .ref q5])), (q1, .inl (cA, (2, .inl sf))), (q2, .inl (cA, (60, .inl lf))), (q3, .inl (cA, (320, .inl rf))), (q4, .inl (cA, (320, .inl nf))), (q5, .inl (cA, (6, .inl gf))), (o, .inl (cL, (1, .inr (.inl (vp_updL fo 0 (nI ((L0 ++ [(xs (i + 2))]).length)).toInt64)))))] := hD
        refine lv_istore (lv' := [(5, .int 0), (4, .int (nI i)), (3, .ref o), (2, .ref y0), (1, .ref x0), (0, .ref b)]) hx hb dL_law_205 hl (by decide) rfl (fun ls hl => ?_)
        refine lv_aload_n hx hb dL_law_207 rfl (lv_at hl 3 rfl) ?_
        refine lv_aload_n hx hb dL_law_208 rfl (lv_at hl 5 rfl) ?_
        refine lv_iload hx hb dL_law_209 (lv_at hl 1 rfl) ?_
        refine lv_iconst (v := 1) hx hb dL_law_211 (by decide) ?_
        refine lv_iadd hx hb dL_law_212 ?_
        rw [show (nI i) + 1 = nI (i + 1) from nI_add i 1]
        refine va_sld hx hb hX hbl hbA hS (vp_in_nI (by omega) (by omega)) dL_law_213 ?_
        rw [show (nI (i + 1)).toNatClampNeg = i + 1 from nI_clamp (by omega)]
        rw [h1]
        refine lv_aload_n hx hb dL_law_214 rfl (lv_at hl 5 rfl) ?_
        refine lv_iload hx hb dL_law_215 (lv_at hl 1 rfl) ?_
        refine lv_iconst (v := 2) hx hb dL_law_217 (by decide) ?_
        refine lv_iadd hx hb dL_law_218 ?_
        rw [show (nI i) + 2 = nI (i + 2) from nI_add i 2]
        refine va_sld hx hb hX hbl hbA hS (vp_in_nI (by omega) (by omega)) dL_law_219 ?_
        rw [show (nI (i + 2)).toNatClampNeg = i + 2 from nI_clamp (by omega)]
        refine g_MVi (As := [.int (nI 0), .int (xs (i + 2))]) (rest := []) ⟨hx, hb, hml, hown, hts⟩ (mt_X2_twist l dC dI cA H.size y0 q1 q2 q3 q4 q5 rn tv sf lf mn rf nf ct il gf (V2 L0 L1) 0 (xs (i + 2)) hW (by omega) hrn h0 hh1 hh2 hk) (cwV 2 hts gL_law_X2_twist rfl rfl rfl hdX2_twist ⟨Nat.le_of_ble_eq_true rfl, Nat.le_of_ble_eq_true rfl⟩) hP hK hD hS hA [9, 10, 11, 12, 13, 14] (by decide) rfl (va_recv hK hP (ci := 2) (q0 := 9) rfl rfl) rfl hl.1 rfl (Nat.le_of_ble_eq_true rfl) dL_law_220 hc0 hs0 (fun u9 => [(x0, .inr (1, [.ref r0, .ref r1, .ref r2, .ref r3, .int (nI rn)])), (r0, .inr (0, [.ref a0, .int (nI ((L0 ++ [(xs (i + 2))]).length))])), (a0, .inl (cA, (100, .inl f1_1))), (r1, .inr (0, [.ref a1, .int (nI L1.length)])), (a1, .inl (cA, (100, .inl f1))), (r2, .inr (0, [.ref a2, .int n2])), (a2, .inl (cA, (100, .inl f2))), (r3, .inr (0, [.ref a3, .int n3])), (a3, .inl (cA, (100, .inl f3))), (y0, .inr (2, [.int 0, .int (nI rn), .ref q1, .ref q2, .int mn, .ref q3, .ref q4, .int ct, .int il, .ref q5])), (q1, .inl (cA, (2, .inl u9.1))), (q2, .inl (cA, (60, .inl u9.2))), (q3, .inl (cA, (320, .inl rf))), (q4, .inl (cA, (320, .inl nf))), (q5, .inl (cA, (6, .inl gf))), (o, .inl (cL, (1, .inr (.inl (vp_updL fo 0 (nI ((L0 ++ [(xs (i + 2))]).length)).toInt64)))))]) (fun _ => rfl) (fun _ => rfl) (fun u H locs hw_5 hP hD hS => ?_)
        obtain ⟨s1_3, l1_4⟩ := u
        have hw_5 : MW (upW (V2 L0 L1) 0 ((V2 L0 L1) 0 ++ [(xs (i + 2))])) s1_3 l1_4 := hw_5
        have hP : va_P (dC, dI) vwCl [(x0, .inr (1, [.ref r0, .ref r1, .ref r2, .ref r3, .int (nI rn)])), (r0, .inr (0, [.ref a0, .int (nI ((L0 ++ [(xs (i + 2))]).length))])), (a0, .inl (cA, (100, .inl f1_1))), (r1, .inr (0, [.ref a1, .int (nI L1.length)])), (a1, .inl (cA, (100, .inl f1))), (r2, .inr (0, [.ref a2, .int n2])), (a2, .inl (cA, (100, .inl f2))), (r3, .inr (0, [.ref a3, .int n3])), (a3, .inl (cA, (100, .inl f3))), (y0, .inr (2, [.int 0, .int (nI rn), .ref q1, .ref q2, .int mn, .ref q3, .ref q4, .int ct, .int il, .ref q5])), (q1, .inl (cA, (2, .inl s1_3))), (q2, .inl (cA, (60, .inl l1_4))), (q3, .inl (cA, (320, .inl rf))), (q4, .inl (cA, (320, .inl nf))), (q5, .inl (cA, (6, .inl gf))), (o, .inl (cL, (1, .inr (.inl (vp_updL fo 0 (nI ((L0 ++ [(xs (i + 2))]).length)).toInt64)))))] H := hP
        have hD : va_D A [(x0, .inr (1, [.ref r0, .ref r1, .ref r2, .ref r3, .int (nI rn)])), (r0, .inr (0, [.ref a0, .int (nI ((L0 ++ [(xs (i + 2))]).length))])), (a0, .inl (cA, (100, .inl f1_1))), (r1, .inr (0, [.ref a1, .int (nI L1.length)])), (a1, .inl (cA, (100, .inl f1))), (r2, .inr (0, [.ref a2, .int n2])), (a2, .inl (cA, (100, .inl f2))), (r3, .inr (0, [.ref a3, .int n3])), (a3, .inl (cA, (100, .inl f3))), (y0, .inr (2, [.int 0, .int (nI rn), .ref q1, .ref q2, .int mn, .ref q3, .ref q4, .int ct, .int il, .ref q5])), (q1, .inl (cA, (2, .inl s1_3))), (q2, .inl (cA, (60, .inl l1_4))), (q3, .inl (cA, (320, .inl rf))), (q4, .inl (cA, (320, .inl nf))), (q5, .inl (cA, (6, .inl gf))), (o, .inl (cL, (1, .inr (.inl (vp_updL fo 0 (nI ((L0 ++ [(xs (i + 2))]).length)).toInt64)))))] := hD
        refine lv_istore (lv' := [(6, .int (nI (((V2 L0 L1) 0).length + 1))), (5, .int 0), (4, .int (nI i)), (3, .ref o), (2, .ref y0), (1, .ref x0), (0, .ref b)]) hx hb dL_law_223 hl (by decide) rfl (fun ls hl => ?_)
        refine lv_aload_n hx hb dL_law_225 rfl (lv_at hl 4 rfl) ?_
        refine g_RVi (As := []) (rest := []) ⟨hx, hb, hml, hown, hts⟩ (mt_X2_thrown l dC dI cA H.size y0 q1 q2 q3 q4 q5 rn 0 s1_3 l1_4 mn rf nf ct il gf) (cwV 0 hts gL_law_X2_thrown rfl rfl rfl hdX2_thrown ⟨Nat.le_of_ble_eq_true rfl, Nat.le_of_ble_eq_true rfl⟩) hP hK hD [9, 10, 11, 12, 13, 14] (by decide) rfl (va_recv hK hP (ci := 2) (q0 := 9) rfl rfl) rfl hl.1 rfl (Nat.le_of_ble_eq_true rfl) dL_law_226 hc0 hs0 ?_
        refine lv_iload hx hb dL_law_229 (lv_at hl 1 rfl) ?_
        refine lv_icmp_eq (tgt := 236) hx hb dL_law_231 (by decide) (fun c231 => ?_) (fun c231 => ?_)
        · refine lv_iload hx hb dL_law_236 (lv_at hl 1 rfl) ?_
          refine lv_if_ne (tgt := 253) hx hb dL_law_238 (by decide) (fun c238 => ?_) (fun c238 => ?_)
          · exact absurd (by decide) c238
          · have c238 : 0 = 0 := g_neF 0 0 (by omega) (by omega) c238
            refine lv_aload_n hx hb dL_law_241 rfl (lv_at hl 3 rfl) ?_
            refine lv_iconst (v := 0) hx hb dL_law_242 (by decide) ?_
            refine va_lald hx hb hKl hP 15 1 rfl rfl (vp_in_nI (n := 0) (by omega) (by decide)) dL_law_243 ?_
            rw [show (0 : Int32).toNatClampNeg = 0 from by decide, pk_uLs]
            refine lv_iload hx hb dL_law_244 (lv_at hl 0 rfl) ?_
            refine lv_i2l (v := (nI (((V2 L0 L1) 0).length + 1)).toInt64) hx hb dL_law_246 rfl ?_
            refine W.lcmp hx hb dL_law_247 ?_
            rw [show lg_cmp ((nI ((L0 ++ [(xs (i + 2))]).length)).toInt64) ((nI (((V2 L0 L1) 0).length + 1)).toInt64) = 0 from (lg_cmp_eq _ _).mpr (by rw [len_snoc]; rfl)]
            refine lv_if_eq (tgt := 253) hx hb dL_law_248 (by decide) (fun c248 => ?_) (fun c248 => ?_)
            · have c248 : 0 = 0 := g_eqT 0 0 (by omega) (by omega) c248
              refine lv_goto (tgt := 1241) hx hb dL_law_253 (by decide) ?_
              exact kk rn (L0 ++ [xs (i + 2)]) L1 _ _ _ _ _ ⟨f1_1, f1, n2, f2, n3, f3, 0, s1_3, l1_4, mn, rf, nf, ct, il, gf, vp_updL fo 0 (nI ((L0 ++ [(xs (i + 2))]).length)).toInt64, hP, hD, hS, hw_2, hR1, by rw [len_snoc]; omega, hl1, hrn, hr6, okL_app hk0 (okL_one (let_ok hrn h0 hh1 hh2)), hk1, MW_c0 hw_5⟩ (by omega) (by omega) (lv_sub hl [2, 3, 4, 5, 6] rfl)
            · exact absurd (by decide) c248
        · exact absurd (by decide) c231
      · refine lv_aload_n hx hb dL_law_188 rfl (lv_at hl 3 rfl) ?_
        refine lv_aload_n hx hb dL_law_189 rfl (lv_at hl 4 rfl) ?_
        refine lv_iload hx hb dL_law_190 (lv_at hl 0 rfl) ?_
        refine lv_iconst (v := 1) hx hb dL_law_192 (by decide) ?_
        refine lv_iadd hx hb dL_law_193 ?_
        rw [show (nI i) + 1 = nI (i + 1) from nI_add i 1]
        refine va_sld hx hb hX hbl hbA hS (vp_in_nI (by omega) (by omega)) dL_law_194 ?_
        rw [show (nI (i + 1)).toNatClampNeg = i + 1 from nI_clamp (by omega)]
        rw [h1]
        refine lv_aload_n hx hb dL_law_195 rfl (lv_at hl 4 rfl) ?_
        refine lv_iload hx hb dL_law_196 (lv_at hl 0 rfl) ?_
        refine lv_iconst (v := 2) hx hb dL_law_198 (by decide) ?_
        refine lv_iadd hx hb dL_law_199 ?_
        rw [show (nI i) + 2 = nI (i + 2) from nI_add i 2]
        refine va_sld hx hb hX hbl hbA hS (vp_in_nI (by omega) (by omega)) dL_law_200 ?_
        rw [show (nI (i + 2)).toNatClampNeg = i + 2 from nI_clamp (by omega)]
        refine lv_aload_n hx hb dL_law_201 rfl (lv_at hl 1 rfl) ?_
        refine g_LS (As := [.ref x0, .int (nI 0), .int (xs (i + 2)), .ref o]) (rest := []) ⟨hx, hb, hml, hown, hts⟩ (mt_L_twist_3_0 l htr dC dI cA cL H.size x0 r0 r1 r2 r3 rn a0 L0 f0 (xs (i + 2)) o fo hR0 h0 hh1 hh2 (by omega)) (vx_cwSW 4 hts gL_law_L_twist rfl rfl rfl hdL_twist ⟨Nat.le_of_ble_eq_true rfl, Nat.le_of_ble_eq_true rfl⟩) hP hKl hD hS hA hZ [0, 1, 2, 15] (by decide) rfl rfl hl.1 rfl (Nat.le_of_ble_eq_true rfl) dL_law_202 hc1 hs1 (fun u9 => [(x0, .inr (1, [.ref r0, .ref r1, .ref r2, .ref r3, .int (nI rn)])), (r0, .inr (0, [.ref a0, .int (nI L0.length)])), (a0, .inl (cA, (100, .inl f0))), (r1, .inr (0, [.ref a1, .int (nI L1.length)])), (a1, .inl (cA, (100, .inl f1))), (r2, .inr (0, [.ref a2, .int n2])), (a2, .inl (cA, (100, .inl f2))), (r3, .inr (0, [.ref a3, .int n3])), (a3, .inl (cA, (100, .inl f3))), (y0, .inr (2, [.int tv, .int (nI rn), .ref q1, .ref q2, .int mn, .ref q3, .ref q4, .int ct, .int il, .ref q5])), (q1, .inl (cA, (2, .inl sf))), (q2, .inl (cA, (60, .inl lf))), (q3, .inl (cA, (320, .inl rf))), (q4, .inl (cA, (320, .inl nf))), (q5, .inl (cA, (6, .inl gf))), (o, .inl (cL, (1, .inr (.inl fo))))]) (fun _ => rfl) (fun _ => rfl) (fun u H locs hw_1 hP hD hS => ?_)
        have hP : va_P (dC, dI) vwCl [(x0, .inr (1, [.ref r0, .ref r1, .ref r2, .ref r3, .int (nI rn)])), (r0, .inr (0, [.ref a0, .int (nI L0.length)])), (a0, .inl (cA, (100, .inl f0))), (r1, .inr (0, [.ref a1, .int (nI L1.length)])), (a1, .inl (cA, (100, .inl f1))), (r2, .inr (0, [.ref a2, .int n2])), (a2, .inl (cA, (100, .inl f2))), (r3, .inr (0, [.ref a3, .int n3])), (a3, .inl (cA, (100, .inl f3))), (y0, .inr (2, [.int tv, .int (nI rn), .ref q1, .ref q2, .int mn, .ref q3, .ref q4, .int ct, .int il, .ref q5])), (q1, .inl (cA, (2, .inl sf))), (q2, .inl (cA, (60, .inl lf))), (q3, .inl (cA, (320, .inl rf))), (q4, .inl (cA, (320, .inl nf))), (q5, .inl (cA, (6, .inl gf))), (o, .inl (cL, (1, .inr (.inl fo))))] H := hP
        have hD : va_D A [(x0, .inr (1, [.ref r0, .ref r1, .ref r2, .ref r3, .int (nI rn)])), (r0, .inr (0, [.ref a0, .int (nI L0.length)])), (a0, .inl (cA, (100, .inl f0))), (r1, .inr (0, [.ref a1, .int (nI L1.length)])), (a1, .inl (cA, (100, .inl f1))), (r2, .inr (0, [.ref a2, .int n2])), (a2, .inl (cA, (100, .inl f2))), (r3, .inr (0, [.ref a3, .int n3])), (a3, .inl (cA, (100, .inl f3))), (y0, .inr (2, [.int tv, .int (nI rn), .ref q1, .ref q2, .int mn, .ref q3, .ref q4, .int ct, .int il, .ref q5])), (q1, .inl (cA, (2, .inl sf))), (q2, .inl (cA, (60, .inl lf))), (q3, .inl (cA, (320, .inl rf))), (q4, .inl (cA, (320, .inl nf))), (q5, .inl (cA, (6, .inl gf))), (o, .inl (cL, (1, .inr (.inl fo))))] := hD
        refine lv_istore (lv' := [(5, .int 3), (4, .int (nI i)), (3, .ref o), (2, .ref y0), (1, .ref x0), (0, .ref b)]) hx hb dL_law_205 hl (by decide) rfl (fun ls hl => ?_)
        refine lv_aload_n hx hb dL_law_207 rfl (lv_at hl 3 rfl) ?_
        refine lv_aload_n hx hb dL_law_208 rfl (lv_at hl 5 rfl) ?_
        refine lv_iload hx hb dL_law_209 (lv_at hl 1 rfl) ?_
        refine lv_iconst (v := 1) hx hb dL_law_211 (by decide) ?_
        refine lv_iadd hx hb dL_law_212 ?_
        rw [show (nI i) + 1 = nI (i + 1) from nI_add i 1]
        refine va_sld hx hb hX hbl hbA hS (vp_in_nI (by omega) (by omega)) dL_law_213 ?_
        rw [show (nI (i + 1)).toNatClampNeg = i + 1 from nI_clamp (by omega)]
        rw [h1]
        refine lv_aload_n hx hb dL_law_214 rfl (lv_at hl 5 rfl) ?_
        refine lv_iload hx hb dL_law_215 (lv_at hl 1 rfl) ?_
        refine lv_iconst (v := 2) hx hb dL_law_217 (by decide) ?_
        refine lv_iadd hx hb dL_law_218 ?_
        rw [show (nI i) + 2 = nI (i + 2) from nI_add i 2]
        refine va_sld hx hb hX hbl hbA hS (vp_in_nI (by omega) (by omega)) dL_law_219 ?_
        rw [show (nI (i + 2)).toNatClampNeg = i + 2 from nI_clamp (by omega)]
        refine g_MVi (As := [.int (nI 0), .int (xs (i + 2))]) (rest := []) ⟨hx, hb, hml, hown, hts⟩ (mt_X2_twist_3 l dC dI cA H.size y0 q1 q2 q3 q4 q5 rn tv sf lf mn rf nf ct il gf (V2 L0 L1) 0 (xs (i + 2)) hW (by omega) hrn h0 hh1 hh2 (show 30 ≤ L0.length from by omega)) (cwV 2 hts gL_law_X2_twist rfl rfl rfl hdX2_twist ⟨Nat.le_of_ble_eq_true rfl, Nat.le_of_ble_eq_true rfl⟩) hP hK hD hS hA [9, 10, 11, 12, 13, 14] (by decide) rfl (va_recv hK hP (ci := 2) (q0 := 9) rfl rfl) rfl hl.1 rfl (Nat.le_of_ble_eq_true rfl) dL_law_220 hc1 hs1 (fun u9 => [(x0, .inr (1, [.ref r0, .ref r1, .ref r2, .ref r3, .int (nI rn)])), (r0, .inr (0, [.ref a0, .int (nI L0.length)])), (a0, .inl (cA, (100, .inl f0))), (r1, .inr (0, [.ref a1, .int (nI L1.length)])), (a1, .inl (cA, (100, .inl f1))), (r2, .inr (0, [.ref a2, .int n2])), (a2, .inl (cA, (100, .inl f2))), (r3, .inr (0, [.ref a3, .int n3])), (a3, .inl (cA, (100, .inl f3))), (y0, .inr (2, [.int 3, .int (nI rn), .ref q1, .ref q2, .int mn, .ref q3, .ref q4, .int ct, .int il, .ref q5])), (q1, .inl (cA, (2, .inl sf))), (q2, .inl (cA, (60, .inl lf))), (q3, .inl (cA, (320, .inl rf))), (q4, .inl (cA, (320, .inl nf))), (q5, .inl (cA, (6, .inl gf))), (o, .inl (cL, (1, .inr (.inl fo))))]) (fun _ => rfl) (fun _ => rfl) (fun u H locs hw_2 hP hD hS => ?_)
        have hw_2 : True := hw_2
        have hP : va_P (dC, dI) vwCl [(x0, .inr (1, [.ref r0, .ref r1, .ref r2, .ref r3, .int (nI rn)])), (r0, .inr (0, [.ref a0, .int (nI L0.length)])), (a0, .inl (cA, (100, .inl f0))), (r1, .inr (0, [.ref a1, .int (nI L1.length)])), (a1, .inl (cA, (100, .inl f1))), (r2, .inr (0, [.ref a2, .int n2])), (a2, .inl (cA, (100, .inl f2))), (r3, .inr (0, [.ref a3, .int n3])), (a3, .inl (cA, (100, .inl f3))), (y0, .inr (2, [.int 3, .int (nI rn), .ref q1, .ref q2, .int mn, .ref q3, .ref q4, .int ct, .int il, .ref q5])), (q1, .inl (cA, (2, .inl sf))), (q2, .inl (cA, (60, .inl lf))), (q3, .inl (cA, (320, .inl rf))), (q4, .inl (cA, (320, .inl nf))), (q5, .inl (cA, (6, .inl gf))), (o, .inl (cL, (1, .inr (.inl fo))))] H := hP
        have hD : va_D A [(x0, .inr (1, [.ref r0, .ref r1, .ref r2, .ref r3, .int (nI rn)])), (r0, .inr (0, [.ref a0, .int (nI L0.length)])), (a0, .inl (cA, (100, .inl f0))), (r1, .inr (0, [.ref a1, .int (nI L1.length)])), (a1, .inl (cA, (100, .inl f1))), (r2, .inr (0, [.ref a2, .int n2])), (a2, .inl (cA, (100, .inl f2))), (r3, .inr (0, [.ref a3, .int n3])), (a3, .inl (cA, (100, .inl f3))), (y0, .inr (2, [.int 3, .int (nI rn), .ref q1, .ref q2, .int mn, .ref q3, .ref q4, .int ct, .int il, .ref q5])), (q1, .inl (cA, (2, .inl sf))), (q2, .inl (cA, (60, .inl lf))), (q3, .inl (cA, (320, .inl rf))), (q4, .inl (cA, (320, .inl nf))), (q5, .inl (cA, (6, .inl gf))), (o, .inl (cL, (1, .inr (.inl fo))))] := hD
        refine lv_istore (lv' := [(6, .int 0), (5, .int 3), (4, .int (nI i)), (3, .ref o), (2, .ref y0), (1, .ref x0), (0, .ref b)]) hx hb dL_law_223 hl (by decide) rfl (fun ls hl => ?_)
        refine lv_aload_n hx hb dL_law_225 rfl (lv_at hl 4 rfl) ?_
        refine g_RVi (As := []) (rest := []) ⟨hx, hb, hml, hown, hts⟩ (mt_X2_thrown l dC dI cA H.size y0 q1 q2 q3 q4 q5 rn 3 sf lf mn rf nf ct il gf) (cwV 0 hts gL_law_X2_thrown rfl rfl rfl hdX2_thrown ⟨Nat.le_of_ble_eq_true rfl, Nat.le_of_ble_eq_true rfl⟩) hP hK hD [9, 10, 11, 12, 13, 14] (by decide) rfl (va_recv hK hP (ci := 2) (q0 := 9) rfl rfl) rfl hl.1 rfl (Nat.le_of_ble_eq_true rfl) dL_law_226 hc1 hs1 ?_
        refine lv_iload hx hb dL_law_229 (lv_at hl 1 rfl) ?_
        refine lv_icmp_eq (tgt := 236) hx hb dL_law_231 (by decide) (fun c231 => ?_) (fun c231 => ?_)
        · refine lv_iload hx hb dL_law_236 (lv_at hl 1 rfl) ?_
          refine lv_if_ne (tgt := 253) hx hb dL_law_238 (by decide) (fun c238 => ?_) (fun c238 => ?_)
          · have c238 : ¬ 3 = 0 := g_neT 3 0 (by omega) (by omega) c238
            refine lv_goto (tgt := 1241) hx hb dL_law_253 (by decide) ?_
            exact kk rn L0 L1 _ _ _ _ _ ⟨f0, f1, n2, f2, n3, f3, 3, sf, lf, mn, rf, nf, ct, il, gf, fo, hP, hD, hS, hR0, hR1, hl0, hl1, hrn, hr6, hk0, hk1, hW⟩ (by omega) (by omega) (lv_sub hl [2, 3, 4, 5, 6] rfl)
          · exact absurd c238 (by decide)
        · exact absurd (by decide) c231
  · rcases lt_ix rn (xs (i + 2)) with hbad | ⟨h0, hh1, hh2⟩
    · refine lv_aload_n hx hb dL_law_188 rfl (lv_at hl 3 rfl) ?_
      refine lv_aload_n hx hb dL_law_189 rfl (lv_at hl 4 rfl) ?_
      refine lv_iload hx hb dL_law_190 (lv_at hl 0 rfl) ?_
      refine lv_iconst (v := 1) hx hb dL_law_192 (by decide) ?_
      refine lv_iadd hx hb dL_law_193 ?_
      rw [show (nI i) + 1 = nI (i + 1) from nI_add i 1]
      refine va_sld hx hb hX hbl hbA hS (vp_in_nI (by omega) (by omega)) dL_law_194 ?_
      rw [show (nI (i + 1)).toNatClampNeg = i + 1 from nI_clamp (by omega)]
      rw [h1]
      refine lv_aload_n hx hb dL_law_195 rfl (lv_at hl 4 rfl) ?_
      refine lv_iload hx hb dL_law_196 (lv_at hl 0 rfl) ?_
      refine lv_iconst (v := 2) hx hb dL_law_198 (by decide) ?_
      refine lv_iadd hx hb dL_law_199 ?_
      rw [show (nI i) + 2 = nI (i + 2) from nI_add i 2]
      refine va_sld hx hb hX hbl hbA hS (vp_in_nI (by omega) (by omega)) dL_law_200 ?_
      rw [show (nI (i + 2)).toNatClampNeg = i + 2 from nI_clamp (by omega)]
      refine lv_aload_n hx hb dL_law_201 rfl (lv_at hl 1 rfl) ?_
      refine g_LS (As := [.ref x0, .int (nI 1), .int (xs (i + 2)), .ref o]) (rest := []) ⟨hx, hb, hml, hown, hts⟩ (mt_L_twist_2_1 l htr dC dI cA cL H.size x0 r0 r1 r2 r3 rn (xs (i + 2)) o fo hbad) (vx_cwSW 4 hts gL_law_L_twist rfl rfl rfl hdL_twist ⟨Nat.le_of_ble_eq_true rfl, Nat.le_of_ble_eq_true rfl⟩) hP hKl hD hS hA hZ [0, 15] (by decide) rfl rfl hl.1 rfl (Nat.le_of_ble_eq_true rfl) dL_law_202 hc1 hs1 (fun u9 => [(x0, .inr (1, [.ref r0, .ref r1, .ref r2, .ref r3, .int (nI rn)])), (r0, .inr (0, [.ref a0, .int (nI L0.length)])), (a0, .inl (cA, (100, .inl f0))), (r1, .inr (0, [.ref a1, .int (nI L1.length)])), (a1, .inl (cA, (100, .inl f1))), (r2, .inr (0, [.ref a2, .int n2])), (a2, .inl (cA, (100, .inl f2))), (r3, .inr (0, [.ref a3, .int n3])), (a3, .inl (cA, (100, .inl f3))), (y0, .inr (2, [.int tv, .int (nI rn), .ref q1, .ref q2, .int mn, .ref q3, .ref q4, .int ct, .int il, .ref q5])), (q1, .inl (cA, (2, .inl sf))), (q2, .inl (cA, (60, .inl lf))), (q3, .inl (cA, (320, .inl rf))), (q4, .inl (cA, (320, .inl nf))), (q5, .inl (cA, (6, .inl gf))), (o, .inl (cL, (1, .inr (.inl fo))))]) (fun _ => rfl) (fun _ => rfl) (fun u H locs hw_1 hP hD hS => ?_)
      have hP : va_P (dC, dI) vwCl [(x0, .inr (1, [.ref r0, .ref r1, .ref r2, .ref r3, .int (nI rn)])), (r0, .inr (0, [.ref a0, .int (nI L0.length)])), (a0, .inl (cA, (100, .inl f0))), (r1, .inr (0, [.ref a1, .int (nI L1.length)])), (a1, .inl (cA, (100, .inl f1))), (r2, .inr (0, [.ref a2, .int n2])), (a2, .inl (cA, (100, .inl f2))), (r3, .inr (0, [.ref a3, .int n3])), (a3, .inl (cA, (100, .inl f3))), (y0, .inr (2, [.int tv, .int (nI rn), .ref q1, .ref q2, .int mn, .ref q3, .ref q4, .int ct, .int il, .ref q5])), (q1, .inl (cA, (2, .inl sf))), (q2, .inl (cA, (60, .inl lf))), (q3, .inl (cA, (320, .inl rf))), (q4, .inl (cA, (320, .inl nf))), (q5, .inl (cA, (6, .inl gf))), (o, .inl (cL, (1, .inr (.inl fo))))] H := hP
      have hD : va_D A [(x0, .inr (1, [.ref r0, .ref r1, .ref r2, .ref r3, .int (nI rn)])), (r0, .inr (0, [.ref a0, .int (nI L0.length)])), (a0, .inl (cA, (100, .inl f0))), (r1, .inr (0, [.ref a1, .int (nI L1.length)])), (a1, .inl (cA, (100, .inl f1))), (r2, .inr (0, [.ref a2, .int n2])), (a2, .inl (cA, (100, .inl f2))), (r3, .inr (0, [.ref a3, .int n3])), (a3, .inl (cA, (100, .inl f3))), (y0, .inr (2, [.int tv, .int (nI rn), .ref q1, .ref q2, .int mn, .ref q3, .ref q4, .int ct, .int il, .ref q5])), (q1, .inl (cA, (2, .inl sf))), (q2, .inl (cA, (60, .inl lf))), (q3, .inl (cA, (320, .inl rf))), (q4, .inl (cA, (320, .inl nf))), (q5, .inl (cA, (6, .inl gf))), (o, .inl (cL, (1, .inr (.inl fo))))] := hD
      refine lv_istore (lv' := [(5, .int 2), (4, .int (nI i)), (3, .ref o), (2, .ref y0), (1, .ref x0), (0, .ref b)]) hx hb dL_law_205 hl (by decide) rfl (fun ls hl => ?_)
      refine lv_aload_n hx hb dL_law_207 rfl (lv_at hl 3 rfl) ?_
      refine lv_aload_n hx hb dL_law_208 rfl (lv_at hl 5 rfl) ?_
      refine lv_iload hx hb dL_law_209 (lv_at hl 1 rfl) ?_
      refine lv_iconst (v := 1) hx hb dL_law_211 (by decide) ?_
      refine lv_iadd hx hb dL_law_212 ?_
      rw [show (nI i) + 1 = nI (i + 1) from nI_add i 1]
      refine va_sld hx hb hX hbl hbA hS (vp_in_nI (by omega) (by omega)) dL_law_213 ?_
      rw [show (nI (i + 1)).toNatClampNeg = i + 1 from nI_clamp (by omega)]
      rw [h1]
      refine lv_aload_n hx hb dL_law_214 rfl (lv_at hl 5 rfl) ?_
      refine lv_iload hx hb dL_law_215 (lv_at hl 1 rfl) ?_
      refine lv_iconst (v := 2) hx hb dL_law_217 (by decide) ?_
      refine lv_iadd hx hb dL_law_218 ?_
      rw [show (nI i) + 2 = nI (i + 2) from nI_add i 2]
      refine va_sld hx hb hX hbl hbA hS (vp_in_nI (by omega) (by omega)) dL_law_219 ?_
      rw [show (nI (i + 2)).toNatClampNeg = i + 2 from nI_clamp (by omega)]
      refine g_MVi (As := [.int (nI 1), .int (xs (i + 2))]) (rest := []) ⟨hx, hb, hml, hown, hts⟩ (mt_X2_twist_2 l dC dI cA H.size y0 q1 q2 q3 q4 q5 rn tv sf lf mn rf nf ct il gf (V2 L0 L1) 1 (xs (i + 2)) hW (by omega) hrn hbad) (cwV 2 hts gL_law_X2_twist rfl rfl rfl hdX2_twist ⟨Nat.le_of_ble_eq_true rfl, Nat.le_of_ble_eq_true rfl⟩) hP hK hD hS hA [9, 10, 11, 12, 13, 14] (by decide) rfl (va_recv hK hP (ci := 2) (q0 := 9) rfl rfl) rfl hl.1 rfl (Nat.le_of_ble_eq_true rfl) dL_law_220 hc1 hs1 (fun u9 => [(x0, .inr (1, [.ref r0, .ref r1, .ref r2, .ref r3, .int (nI rn)])), (r0, .inr (0, [.ref a0, .int (nI L0.length)])), (a0, .inl (cA, (100, .inl f0))), (r1, .inr (0, [.ref a1, .int (nI L1.length)])), (a1, .inl (cA, (100, .inl f1))), (r2, .inr (0, [.ref a2, .int n2])), (a2, .inl (cA, (100, .inl f2))), (r3, .inr (0, [.ref a3, .int n3])), (a3, .inl (cA, (100, .inl f3))), (y0, .inr (2, [.int 2, .int (nI rn), .ref q1, .ref q2, .int mn, .ref q3, .ref q4, .int ct, .int il, .ref q5])), (q1, .inl (cA, (2, .inl sf))), (q2, .inl (cA, (60, .inl lf))), (q3, .inl (cA, (320, .inl rf))), (q4, .inl (cA, (320, .inl nf))), (q5, .inl (cA, (6, .inl gf))), (o, .inl (cL, (1, .inr (.inl fo))))]) (fun _ => rfl) (fun _ => rfl) (fun u H locs hw_2 hP hD hS => ?_)
      have hw_2 : True := hw_2
      have hP : va_P (dC, dI) vwCl [(x0, .inr (1, [.ref r0, .ref r1, .ref r2, .ref r3, .int (nI rn)])), (r0, .inr (0, [.ref a0, .int (nI L0.length)])), (a0, .inl (cA, (100, .inl f0))), (r1, .inr (0, [.ref a1, .int (nI L1.length)])), (a1, .inl (cA, (100, .inl f1))), (r2, .inr (0, [.ref a2, .int n2])), (a2, .inl (cA, (100, .inl f2))), (r3, .inr (0, [.ref a3, .int n3])), (a3, .inl (cA, (100, .inl f3))), (y0, .inr (2, [.int 2, .int (nI rn), .ref q1, .ref q2, .int mn, .ref q3, .ref q4, .int ct, .int il, .ref q5])), (q1, .inl (cA, (2, .inl sf))), (q2, .inl (cA, (60, .inl lf))), (q3, .inl (cA, (320, .inl rf))), (q4, .inl (cA, (320, .inl nf))), (q5, .inl (cA, (6, .inl gf))), (o, .inl (cL, (1, .inr (.inl fo))))] H := hP
      have hD : va_D A [(x0, .inr (1, [.ref r0, .ref r1, .ref r2, .ref r3, .int (nI rn)])), (r0, .inr (0, [.ref a0, .int (nI L0.length)])), (a0, .inl (cA, (100, .inl f0))), (r1, .inr (0, [.ref a1, .int (nI L1.length)])), (a1, .inl (cA, (100, .inl f1))), (r2, .inr (0, [.ref a2, .int n2])), (a2, .inl (cA, (100, .inl f2))), (r3, .inr (0, [.ref a3, .int n3])), (a3, .inl (cA, (100, .inl f3))), (y0, .inr (2, [.int 2, .int (nI rn), .ref q1, .ref q2, .int mn, .ref q3, .ref q4, .int ct, .int il, .ref q5])), (q1, .inl (cA, (2, .inl sf))), (q2, .inl (cA, (60, .inl lf))), (q3, .inl (cA, (320, .inl rf))), (q4, .inl (cA, (320, .inl nf))), (q5, .inl (cA, (6, .inl gf))), (o, .inl (cL, (1, .inr (.inl fo))))] := hD
      refine lv_istore (lv' := [(6, .int 0), (5, .int 2), (4, .int (nI i)), (3, .ref o), (2, .ref y0), (1, .ref x0), (0, .ref b)]) hx hb dL_law_223 hl (by decide) rfl (fun ls hl => ?_)
      refine lv_aload_n hx hb dL_law_225 rfl (lv_at hl 4 rfl) ?_
      refine g_RVi (As := []) (rest := []) ⟨hx, hb, hml, hown, hts⟩ (mt_X2_thrown l dC dI cA H.size y0 q1 q2 q3 q4 q5 rn 2 sf lf mn rf nf ct il gf) (cwV 0 hts gL_law_X2_thrown rfl rfl rfl hdX2_thrown ⟨Nat.le_of_ble_eq_true rfl, Nat.le_of_ble_eq_true rfl⟩) hP hK hD [9, 10, 11, 12, 13, 14] (by decide) rfl (va_recv hK hP (ci := 2) (q0 := 9) rfl rfl) rfl hl.1 rfl (Nat.le_of_ble_eq_true rfl) dL_law_226 hc1 hs1 ?_
      refine lv_iload hx hb dL_law_229 (lv_at hl 1 rfl) ?_
      refine lv_icmp_eq (tgt := 236) hx hb dL_law_231 (by decide) (fun c231 => ?_) (fun c231 => ?_)
      · refine lv_iload hx hb dL_law_236 (lv_at hl 1 rfl) ?_
        refine lv_if_ne (tgt := 253) hx hb dL_law_238 (by decide) (fun c238 => ?_) (fun c238 => ?_)
        · have c238 : ¬ 2 = 0 := g_neT 2 0 (by omega) (by omega) c238
          refine lv_goto (tgt := 1241) hx hb dL_law_253 (by decide) ?_
          exact kk rn L0 L1 _ _ _ _ _ ⟨f0, f1, n2, f2, n3, f3, 2, sf, lf, mn, rf, nf, ct, il, gf, fo, hP, hD, hS, hR0, hR1, hl0, hl1, hrn, hr6, hk0, hk1, hW⟩ (by omega) (by omega) (lv_sub hl [2, 3, 4, 5, 6] rfl)
        · exact absurd c238 (by decide)
      · exact absurd (by decide) c231
    · by_cases hk : L1.length < 30
      · refine lv_aload_n hx hb dL_law_188 rfl (lv_at hl 3 rfl) ?_
        refine lv_aload_n hx hb dL_law_189 rfl (lv_at hl 4 rfl) ?_
        refine lv_iload hx hb dL_law_190 (lv_at hl 0 rfl) ?_
        refine lv_iconst (v := 1) hx hb dL_law_192 (by decide) ?_
        refine lv_iadd hx hb dL_law_193 ?_
        rw [show (nI i) + 1 = nI (i + 1) from nI_add i 1]
        refine va_sld hx hb hX hbl hbA hS (vp_in_nI (by omega) (by omega)) dL_law_194 ?_
        rw [show (nI (i + 1)).toNatClampNeg = i + 1 from nI_clamp (by omega)]
        rw [h1]
        refine lv_aload_n hx hb dL_law_195 rfl (lv_at hl 4 rfl) ?_
        refine lv_iload hx hb dL_law_196 (lv_at hl 0 rfl) ?_
        refine lv_iconst (v := 2) hx hb dL_law_198 (by decide) ?_
        refine lv_iadd hx hb dL_law_199 ?_
        rw [show (nI i) + 2 = nI (i + 2) from nI_add i 2]
        refine va_sld hx hb hX hbl hbA hS (vp_in_nI (by omega) (by omega)) dL_law_200 ?_
        rw [show (nI (i + 2)).toNatClampNeg = i + 2 from nI_clamp (by omega)]
        refine lv_aload_n hx hb dL_law_201 rfl (lv_at hl 1 rfl) ?_
        refine g_LS (As := [.ref x0, .int (nI 1), .int (xs (i + 2)), .ref o]) (rest := []) ⟨hx, hb, hml, hown, hts⟩ (mt_L_twist1 l htr dC dI cA cL H.size x0 r0 r1 r2 r3 rn a1 L1 f1 (xs (i + 2)) o fo hR1 h0 hh1 hh2 hk) (vx_cwSW 4 hts gL_law_L_twist rfl rfl rfl hdL_twist ⟨Nat.le_of_ble_eq_true rfl, Nat.le_of_ble_eq_true rfl⟩) hP hKl hD hS hA hZ [0, 3, 4, 15] (by decide) rfl rfl hl.1 rfl (Nat.le_of_ble_eq_true rfl) dL_law_202 hc0 hs0 (fun u9 => [(x0, .inr (1, [.ref r0, .ref r1, .ref r2, .ref r3, .int (nI rn)])), (r0, .inr (0, [.ref a0, .int (nI L0.length)])), (a0, .inl (cA, (100, .inl f0))), (r1, .inr (0, [.ref a1, .int (nI ((L1 ++ [(xs (i + 2))]).length))])), (a1, .inl (cA, (100, .inl u9))), (r2, .inr (0, [.ref a2, .int n2])), (a2, .inl (cA, (100, .inl f2))), (r3, .inr (0, [.ref a3, .int n3])), (a3, .inl (cA, (100, .inl f3))), (y0, .inr (2, [.int tv, .int (nI rn), .ref q1, .ref q2, .int mn, .ref q3, .ref q4, .int ct, .int il, .ref q5])), (q1, .inl (cA, (2, .inl sf))), (q2, .inl (cA, (60, .inl lf))), (q3, .inl (cA, (320, .inl rf))), (q4, .inl (cA, (320, .inl nf))), (q5, .inl (cA, (6, .inl gf))), (o, .inl (cL, (1, .inr (.inl (vp_updL fo 0 (nI ((L1 ++ [(xs (i + 2))]).length)).toInt64)))))]) (fun _ => rfl) (fun _ => rfl) (fun u H locs hw_2 hP hD hS => ?_)
        obtain ⟨f1_1, rfl⟩ : ∃ z, z = u := ⟨_, rfl⟩
        have hw_2 : RI (L1 ++ [(xs (i + 2))]) f1_1 := hw_2
        have hP : va_P (dC, dI) vwCl [(x0, .inr (1, [.ref r0, .ref r1, .ref r2, .ref r3, .int (nI rn)])), (r0, .inr (0, [.ref a0, .int (nI L0.length)])), (a0, .inl (cA, (100, .inl f0))), (r1, .inr (0, [.ref a1, .int (nI ((L1 ++ [(xs (i + 2))]).length))])), (a1, .inl (cA, (100, .inl f1_1))), (r2, .inr (0, [.ref a2, .int n2])), (a2, .inl (cA, (100, .inl f2))), (r3, .inr (0, [.ref a3, .int n3])), (a3, .inl (cA, (100, .inl f3))), (y0, .inr (2, [.int tv, .int (nI rn), .ref q1, .ref q2, .int mn, .ref q3, .ref q4, .int ct, .int il, .ref q5])), (q1, .inl (cA, (2, .inl sf))), (q2, .inl (cA, (60, .inl lf))), (q3, .inl (cA, (320, .inl rf))), (q4, .inl (cA, (320, .inl nf))), (q5, .inl (cA, (6, .inl gf))), (o, .inl (cL, (1, .inr (.inl (vp_updL fo 0 (nI ((L1 ++ [(xs (i + 2))]).length)).toInt64)))))] H := hP
        have hD : va_D A [(x0, .inr (1, [.ref r0, .ref r1, .ref r2, .ref r3, .int (nI rn)])), (r0, .inr (0, [.ref a0, .int (nI L0.length)])), (a0, .inl (cA, (100, .inl f0))), (r1, .inr (0, [.ref a1, .int (nI ((L1 ++ [(xs (i + 2))]).length))])), (a1, .inl (cA, (100, .inl f1_1))), (r2, .inr (0, [.ref a2, .int n2])), (a2, .inl (cA, (100, .inl f2))), (r3, .inr (0, [.ref a3, .int n3])), (a3, .inl (cA, (100, .inl f3))), (y0, .inr (2, [.int tv, .int (nI rn), .ref q1, .ref q2, .int mn, .ref q3, .ref q4, .int ct, .int il, .ref q5])), (q1, .inl (cA, (2, .inl sf))), (q2, .inl (cA, (60, .inl lf))), (q3, .inl (cA, (320, .inl rf))), (q4, .inl (cA, (320, .inl nf))), (q5, .inl (cA, (6, .inl gf))), (o, .inl (cL, (1, .inr (.inl (vp_updL fo 0 (nI ((L1 ++ [(xs (i + 2))]).length)).toInt64)))))] := hD
        refine lv_istore (lv' := [(5, .int 0), (4, .int (nI i)), (3, .ref o), (2, .ref y0), (1, .ref x0), (0, .ref b)]) hx hb dL_law_205 hl (by decide) rfl (fun ls hl => ?_)
        refine lv_aload_n hx hb dL_law_207 rfl (lv_at hl 3 rfl) ?_
        refine lv_aload_n hx hb dL_law_208 rfl (lv_at hl 5 rfl) ?_
        refine lv_iload hx hb dL_law_209 (lv_at hl 1 rfl) ?_
        refine lv_iconst (v := 1) hx hb dL_law_211 (by decide) ?_
        refine lv_iadd hx hb dL_law_212 ?_
        rw [show (nI i) + 1 = nI (i + 1) from nI_add i 1]
        refine va_sld hx hb hX hbl hbA hS (vp_in_nI (by omega) (by omega)) dL_law_213 ?_
        rw [show (nI (i + 1)).toNatClampNeg = i + 1 from nI_clamp (by omega)]
        rw [h1]
        refine lv_aload_n hx hb dL_law_214 rfl (lv_at hl 5 rfl) ?_
        refine lv_iload hx hb dL_law_215 (lv_at hl 1 rfl) ?_
        refine lv_iconst (v := 2) hx hb dL_law_217 (by decide) ?_
        refine lv_iadd hx hb dL_law_218 ?_
        rw [show (nI i) + 2 = nI (i + 2) from nI_add i 2]
        refine va_sld hx hb hX hbl hbA hS (vp_in_nI (by omega) (by omega)) dL_law_219 ?_
        rw [show (nI (i + 2)).toNatClampNeg = i + 2 from nI_clamp (by omega)]
        refine g_MVi (As := [.int (nI 1), .int (xs (i + 2))]) (rest := []) ⟨hx, hb, hml, hown, hts⟩ (mt_X2_twist l dC dI cA H.size y0 q1 q2 q3 q4 q5 rn tv sf lf mn rf nf ct il gf (V2 L0 L1) 1 (xs (i + 2)) hW (by omega) hrn h0 hh1 hh2 hk) (cwV 2 hts gL_law_X2_twist rfl rfl rfl hdX2_twist ⟨Nat.le_of_ble_eq_true rfl, Nat.le_of_ble_eq_true rfl⟩) hP hK hD hS hA [9, 10, 11, 12, 13, 14] (by decide) rfl (va_recv hK hP (ci := 2) (q0 := 9) rfl rfl) rfl hl.1 rfl (Nat.le_of_ble_eq_true rfl) dL_law_220 hc0 hs0 (fun u9 => [(x0, .inr (1, [.ref r0, .ref r1, .ref r2, .ref r3, .int (nI rn)])), (r0, .inr (0, [.ref a0, .int (nI L0.length)])), (a0, .inl (cA, (100, .inl f0))), (r1, .inr (0, [.ref a1, .int (nI ((L1 ++ [(xs (i + 2))]).length))])), (a1, .inl (cA, (100, .inl f1_1))), (r2, .inr (0, [.ref a2, .int n2])), (a2, .inl (cA, (100, .inl f2))), (r3, .inr (0, [.ref a3, .int n3])), (a3, .inl (cA, (100, .inl f3))), (y0, .inr (2, [.int 0, .int (nI rn), .ref q1, .ref q2, .int mn, .ref q3, .ref q4, .int ct, .int il, .ref q5])), (q1, .inl (cA, (2, .inl u9.1))), (q2, .inl (cA, (60, .inl u9.2))), (q3, .inl (cA, (320, .inl rf))), (q4, .inl (cA, (320, .inl nf))), (q5, .inl (cA, (6, .inl gf))), (o, .inl (cL, (1, .inr (.inl (vp_updL fo 0 (nI ((L1 ++ [(xs (i + 2))]).length)).toInt64)))))]) (fun _ => rfl) (fun _ => rfl) (fun u H locs hw_5 hP hD hS => ?_)
        obtain ⟨s1_3, l1_4⟩ := u
        have hw_5 : MW (upW (V2 L0 L1) 1 ((V2 L0 L1) 1 ++ [(xs (i + 2))])) s1_3 l1_4 := hw_5
        have hP : va_P (dC, dI) vwCl [(x0, .inr (1, [.ref r0, .ref r1, .ref r2, .ref r3, .int (nI rn)])), (r0, .inr (0, [.ref a0, .int (nI L0.length)])), (a0, .inl (cA, (100, .inl f0))), (r1, .inr (0, [.ref a1, .int (nI ((L1 ++ [(xs (i + 2))]).length))])), (a1, .inl (cA, (100, .inl f1_1))), (r2, .inr (0, [.ref a2, .int n2])), (a2, .inl (cA, (100, .inl f2))), (r3, .inr (0, [.ref a3, .int n3])), (a3, .inl (cA, (100, .inl f3))), (y0, .inr (2, [.int 0, .int (nI rn), .ref q1, .ref q2, .int mn, .ref q3, .ref q4, .int ct, .int il, .ref q5])), (q1, .inl (cA, (2, .inl s1_3))), (q2, .inl (cA, (60, .inl l1_4))), (q3, .inl (cA, (320, .inl rf))), (q4, .inl (cA, (320, .inl nf))), (q5, .inl (cA, (6, .inl gf))), (o, .inl (cL, (1, .inr (.inl (vp_updL fo 0 (nI ((L1 ++ [(xs (i + 2))]).length)).toInt64)))))] H := hP
        have hD : va_D A [(x0, .inr (1, [.ref r0, .ref r1, .ref r2, .ref r3, .int (nI rn)])), (r0, .inr (0, [.ref a0, .int (nI L0.length)])), (a0, .inl (cA, (100, .inl f0))), (r1, .inr (0, [.ref a1, .int (nI ((L1 ++ [(xs (i + 2))]).length))])), (a1, .inl (cA, (100, .inl f1_1))), (r2, .inr (0, [.ref a2, .int n2])), (a2, .inl (cA, (100, .inl f2))), (r3, .inr (0, [.ref a3, .int n3])), (a3, .inl (cA, (100, .inl f3))), (y0, .inr (2, [.int 0, .int (nI rn), .ref q1, .ref q2, .int mn, .ref q3, .ref q4, .int ct, .int il, .ref q5])), (q1, .inl (cA, (2, .inl s1_3))), (q2, .inl (cA, (60, .inl l1_4))), (q3, .inl (cA, (320, .inl rf))), (q4, .inl (cA, (320, .inl nf))), (q5, .inl (cA, (6, .inl gf))), (o, .inl (cL, (1, .inr (.inl (vp_updL fo 0 (nI ((L1 ++ [(xs (i + 2))]).length)).toInt64)))))] := hD
        refine lv_istore (lv' := [(6, .int (nI (((V2 L0 L1) 1).length + 1))), (5, .int 0), (4, .int (nI i)), (3, .ref o), (2, .ref y0), (1, .ref x0), (0, .ref b)]) hx hb dL_law_223 hl (by decide) rfl (fun ls hl => ?_)
        refine lv_aload_n hx hb dL_law_225 rfl (lv_at hl 4 rfl) ?_
        refine g_RVi (As := []) (rest := []) ⟨hx, hb, hml, hown, hts⟩ (mt_X2_thrown l dC dI cA H.size y0 q1 q2 q3 q4 q5 rn 0 s1_3 l1_4 mn rf nf ct il gf) (cwV 0 hts gL_law_X2_thrown rfl rfl rfl hdX2_thrown ⟨Nat.le_of_ble_eq_true rfl, Nat.le_of_ble_eq_true rfl⟩) hP hK hD [9, 10, 11, 12, 13, 14] (by decide) rfl (va_recv hK hP (ci := 2) (q0 := 9) rfl rfl) rfl hl.1 rfl (Nat.le_of_ble_eq_true rfl) dL_law_226 hc0 hs0 ?_
        refine lv_iload hx hb dL_law_229 (lv_at hl 1 rfl) ?_
        refine lv_icmp_eq (tgt := 236) hx hb dL_law_231 (by decide) (fun c231 => ?_) (fun c231 => ?_)
        · refine lv_iload hx hb dL_law_236 (lv_at hl 1 rfl) ?_
          refine lv_if_ne (tgt := 253) hx hb dL_law_238 (by decide) (fun c238 => ?_) (fun c238 => ?_)
          · exact absurd (by decide) c238
          · have c238 : 0 = 0 := g_neF 0 0 (by omega) (by omega) c238
            refine lv_aload_n hx hb dL_law_241 rfl (lv_at hl 3 rfl) ?_
            refine lv_iconst (v := 0) hx hb dL_law_242 (by decide) ?_
            refine va_lald hx hb hKl hP 15 1 rfl rfl (vp_in_nI (n := 0) (by omega) (by decide)) dL_law_243 ?_
            rw [show (0 : Int32).toNatClampNeg = 0 from by decide, pk_uLs]
            refine lv_iload hx hb dL_law_244 (lv_at hl 0 rfl) ?_
            refine lv_i2l (v := (nI (((V2 L0 L1) 1).length + 1)).toInt64) hx hb dL_law_246 rfl ?_
            refine W.lcmp hx hb dL_law_247 ?_
            rw [show lg_cmp ((nI ((L1 ++ [(xs (i + 2))]).length)).toInt64) ((nI (((V2 L0 L1) 1).length + 1)).toInt64) = 0 from (lg_cmp_eq _ _).mpr (by rw [len_snoc]; rfl)]
            refine lv_if_eq (tgt := 253) hx hb dL_law_248 (by decide) (fun c248 => ?_) (fun c248 => ?_)
            · have c248 : 0 = 0 := g_eqT 0 0 (by omega) (by omega) c248
              refine lv_goto (tgt := 1241) hx hb dL_law_253 (by decide) ?_
              exact kk rn L0 (L1 ++ [xs (i + 2)]) _ _ _ _ _ ⟨f0, f1_1, n2, f2, n3, f3, 0, s1_3, l1_4, mn, rf, nf, ct, il, gf, vp_updL fo 0 (nI ((L1 ++ [(xs (i + 2))]).length)).toInt64, hP, hD, hS, hR0, hw_2, hl0, by rw [len_snoc]; omega, hrn, hr6, hk0, okL_app hk1 (okL_one (let_ok hrn h0 hh1 hh2)), MW_c1 hw_5⟩ (by omega) (by omega) (lv_sub hl [2, 3, 4, 5, 6] rfl)
            · exact absurd (by decide) c248
        · exact absurd (by decide) c231
      · refine lv_aload_n hx hb dL_law_188 rfl (lv_at hl 3 rfl) ?_
        refine lv_aload_n hx hb dL_law_189 rfl (lv_at hl 4 rfl) ?_
        refine lv_iload hx hb dL_law_190 (lv_at hl 0 rfl) ?_
        refine lv_iconst (v := 1) hx hb dL_law_192 (by decide) ?_
        refine lv_iadd hx hb dL_law_193 ?_
        rw [show (nI i) + 1 = nI (i + 1) from nI_add i 1]
        refine va_sld hx hb hX hbl hbA hS (vp_in_nI (by omega) (by omega)) dL_law_194 ?_
        rw [show (nI (i + 1)).toNatClampNeg = i + 1 from nI_clamp (by omega)]
        rw [h1]
        refine lv_aload_n hx hb dL_law_195 rfl (lv_at hl 4 rfl) ?_
        refine lv_iload hx hb dL_law_196 (lv_at hl 0 rfl) ?_
        refine lv_iconst (v := 2) hx hb dL_law_198 (by decide) ?_
        refine lv_iadd hx hb dL_law_199 ?_
        rw [show (nI i) + 2 = nI (i + 2) from nI_add i 2]
        refine va_sld hx hb hX hbl hbA hS (vp_in_nI (by omega) (by omega)) dL_law_200 ?_
        rw [show (nI (i + 2)).toNatClampNeg = i + 2 from nI_clamp (by omega)]
        refine lv_aload_n hx hb dL_law_201 rfl (lv_at hl 1 rfl) ?_
        refine g_LS (As := [.ref x0, .int (nI 1), .int (xs (i + 2)), .ref o]) (rest := []) ⟨hx, hb, hml, hown, hts⟩ (mt_L_twist_3_1 l htr dC dI cA cL H.size x0 r0 r1 r2 r3 rn a1 L1 f1 (xs (i + 2)) o fo hR1 h0 hh1 hh2 (by omega)) (vx_cwSW 4 hts gL_law_L_twist rfl rfl rfl hdL_twist ⟨Nat.le_of_ble_eq_true rfl, Nat.le_of_ble_eq_true rfl⟩) hP hKl hD hS hA hZ [0, 3, 4, 15] (by decide) rfl rfl hl.1 rfl (Nat.le_of_ble_eq_true rfl) dL_law_202 hc1 hs1 (fun u9 => [(x0, .inr (1, [.ref r0, .ref r1, .ref r2, .ref r3, .int (nI rn)])), (r0, .inr (0, [.ref a0, .int (nI L0.length)])), (a0, .inl (cA, (100, .inl f0))), (r1, .inr (0, [.ref a1, .int (nI L1.length)])), (a1, .inl (cA, (100, .inl f1))), (r2, .inr (0, [.ref a2, .int n2])), (a2, .inl (cA, (100, .inl f2))), (r3, .inr (0, [.ref a3, .int n3])), (a3, .inl (cA, (100, .inl f3))), (y0, .inr (2, [.int tv, .int (nI rn), .ref q1, .ref q2, .int mn, .ref q3, .ref q4, .int ct, .int il, .ref q5])), (q1, .inl (cA, (2, .inl sf))), (q2, .inl (cA, (60, .inl lf))), (q3, .inl (cA, (320, .inl rf))), (q4, .inl (cA, (320, .inl nf))), (q5, .inl (cA, (6, .inl gf))), (o, .inl (cL, (1, .inr (.inl fo))))]) (fun _ => rfl) (fun _ => rfl) (fun u H locs hw_1 hP hD hS => ?_)
        have hP : va_P (dC, dI) vwCl [(x0, .inr (1, [.ref r0, .ref r1, .ref r2, .ref r3, .int (nI rn)])), (r0, .inr (0, [.ref a0, .int (nI L0.length)])), (a0, .inl (cA, (100, .inl f0))), (r1, .inr (0, [.ref a1, .int (nI L1.length)])), (a1, .inl (cA, (100, .inl f1))), (r2, .inr (0, [.ref a2, .int n2])), (a2, .inl (cA, (100, .inl f2))), (r3, .inr (0, [.ref a3, .int n3])), (a3, .inl (cA, (100, .inl f3))), (y0, .inr (2, [.int tv, .int (nI rn), .ref q1, .ref q2, .int mn, .ref q3, .ref q4, .int ct, .int il, .ref q5])), (q1, .inl (cA, (2, .inl sf))), (q2, .inl (cA, (60, .inl lf))), (q3, .inl (cA, (320, .inl rf))), (q4, .inl (cA, (320, .inl nf))), (q5, .inl (cA, (6, .inl gf))), (o, .inl (cL, (1, .inr (.inl fo))))] H := hP
        have hD : va_D A [(x0, .inr (1, [.ref r0, .ref r1, .ref r2, .ref r3, .int (nI rn)])), (r0, .inr (0, [.ref a0, .int (nI L0.length)])), (a0, .inl (cA, (100, .inl f0))), (r1, .inr (0, [.ref a1, .int (nI L1.length)])), (a1, .inl (cA, (100, .inl f1))), (r2, .inr (0, [.ref a2, .int n2])), (a2, .inl (cA, (100, .inl f2))), (r3, .inr (0, [.ref a3, .int n3])), (a3, .inl (cA, (100, .inl f3))), (y0, .inr (2, [.int tv, .int (nI rn), .ref q1, .ref q2, .int mn, .ref q3, .ref q4, .int ct, .int il, .ref q5])), (q1, .inl (cA, (2, .inl sf))), (q2, .inl (cA, (60, .inl lf))), (q3, .inl (cA, (320, .inl rf))), (q4, .inl (cA, (320, .inl nf))), (q5, .inl (cA, (6, .inl gf))), (o, .inl (cL, (1, .inr (.inl fo))))] := hD
        refine lv_istore (lv' := [(5, .int 3), (4, .int (nI i)), (3, .ref o), (2, .ref y0), (1, .ref x0), (0, .ref b)]) hx hb dL_law_205 hl (by decide) rfl (fun ls hl => ?_)
        refine lv_aload_n hx hb dL_law_207 rfl (lv_at hl 3 rfl) ?_
        refine lv_aload_n hx hb dL_law_208 rfl (lv_at hl 5 rfl) ?_
        refine lv_iload hx hb dL_law_209 (lv_at hl 1 rfl) ?_
        refine lv_iconst (v := 1) hx hb dL_law_211 (by decide) ?_
        refine lv_iadd hx hb dL_law_212 ?_
        rw [show (nI i) + 1 = nI (i + 1) from nI_add i 1]
        refine va_sld hx hb hX hbl hbA hS (vp_in_nI (by omega) (by omega)) dL_law_213 ?_
        rw [show (nI (i + 1)).toNatClampNeg = i + 1 from nI_clamp (by omega)]
        rw [h1]
        refine lv_aload_n hx hb dL_law_214 rfl (lv_at hl 5 rfl) ?_
        refine lv_iload hx hb dL_law_215 (lv_at hl 1 rfl) ?_
        refine lv_iconst (v := 2) hx hb dL_law_217 (by decide) ?_
        refine lv_iadd hx hb dL_law_218 ?_
        rw [show (nI i) + 2 = nI (i + 2) from nI_add i 2]
        refine va_sld hx hb hX hbl hbA hS (vp_in_nI (by omega) (by omega)) dL_law_219 ?_
        rw [show (nI (i + 2)).toNatClampNeg = i + 2 from nI_clamp (by omega)]
        refine g_MVi (As := [.int (nI 1), .int (xs (i + 2))]) (rest := []) ⟨hx, hb, hml, hown, hts⟩ (mt_X2_twist_3 l dC dI cA H.size y0 q1 q2 q3 q4 q5 rn tv sf lf mn rf nf ct il gf (V2 L0 L1) 1 (xs (i + 2)) hW (by omega) hrn h0 hh1 hh2 (show 30 ≤ L1.length from by omega)) (cwV 2 hts gL_law_X2_twist rfl rfl rfl hdX2_twist ⟨Nat.le_of_ble_eq_true rfl, Nat.le_of_ble_eq_true rfl⟩) hP hK hD hS hA [9, 10, 11, 12, 13, 14] (by decide) rfl (va_recv hK hP (ci := 2) (q0 := 9) rfl rfl) rfl hl.1 rfl (Nat.le_of_ble_eq_true rfl) dL_law_220 hc1 hs1 (fun u9 => [(x0, .inr (1, [.ref r0, .ref r1, .ref r2, .ref r3, .int (nI rn)])), (r0, .inr (0, [.ref a0, .int (nI L0.length)])), (a0, .inl (cA, (100, .inl f0))), (r1, .inr (0, [.ref a1, .int (nI L1.length)])), (a1, .inl (cA, (100, .inl f1))), (r2, .inr (0, [.ref a2, .int n2])), (a2, .inl (cA, (100, .inl f2))), (r3, .inr (0, [.ref a3, .int n3])), (a3, .inl (cA, (100, .inl f3))), (y0, .inr (2, [.int 3, .int (nI rn), .ref q1, .ref q2, .int mn, .ref q3, .ref q4, .int ct, .int il, .ref q5])), (q1, .inl (cA, (2, .inl sf))), (q2, .inl (cA, (60, .inl lf))), (q3, .inl (cA, (320, .inl rf))), (q4, .inl (cA, (320, .inl nf))), (q5, .inl (cA, (6, .inl gf))), (o, .inl (cL, (1, .inr (.inl fo))))]) (fun _ => rfl) (fun _ => rfl) (fun u H locs hw_2 hP hD hS => ?_)
        have hw_2 : True := hw_2
        have hP : va_P (dC, dI) vwCl [(x0, .inr (1, [.ref r0, .ref r1, .ref r2, .ref r3, .int (nI rn)])), (r0, .inr (0, [.ref a0, .int (nI L0.length)])), (a0, .inl (cA, (100, .inl f0))), (r1, .inr (0, [.ref a1, .int (nI L1.length)])), (a1, .inl (cA, (100, .inl f1))), (r2, .inr (0, [.ref a2, .int n2])), (a2, .inl (cA, (100, .inl f2))), (r3, .inr (0, [.ref a3, .int n3])), (a3, .inl (cA, (100, .inl f3))), (y0, .inr (2, [.int 3, .int (nI rn), .ref q1, .ref q2, .int mn, .ref q3, .ref q4, .int ct, .int il, .ref q5])), (q1, .inl (cA, (2, .inl sf))), (q2, .inl (cA, (60, .inl lf))), (q3, .inl (cA, (320, .inl rf))), (q4, .inl (cA, (320, .inl nf))), (q5, .inl (cA, (6, .inl gf))), (o, .inl (cL, (1, .inr (.inl fo))))] H := hP
        have hD : va_D A [(x0, .inr (1, [.ref r0, .ref r1, .ref r2, .ref r3, .int (nI rn)])), (r0, .inr (0, [.ref a0, .int (nI L0.length)])), (a0, .inl (cA, (100, .inl f0))), (r1, .inr (0, [.ref a1, .int (nI L1.length)])), (a1, .inl (cA, (100, .inl f1))), (r2, .inr (0, [.ref a2, .int n2])), (a2, .inl (cA, (100, .inl f2))), (r3, .inr (0, [.ref a3, .int n3])), (a3, .inl (cA, (100, .inl f3))), (y0, .inr (2, [.int 3, .int (nI rn), .ref q1, .ref q2, .int mn, .ref q3, .ref q4, .int ct, .int il, .ref q5])), (q1, .inl (cA, (2, .inl sf))), (q2, .inl (cA, (60, .inl lf))), (q3, .inl (cA, (320, .inl rf))), (q4, .inl (cA, (320, .inl nf))), (q5, .inl (cA, (6, .inl gf))), (o, .inl (cL, (1, .inr (.inl fo))))] := hD
        refine lv_istore (lv' := [(6, .int 0), (5, .int 3), (4, .int (nI i)), (3, .ref o), (2, .ref y0), (1, .ref x0), (0, .ref b)]) hx hb dL_law_223 hl (by decide) rfl (fun ls hl => ?_)
        refine lv_aload_n hx hb dL_law_225 rfl (lv_at hl 4 rfl) ?_
        refine g_RVi (As := []) (rest := []) ⟨hx, hb, hml, hown, hts⟩ (mt_X2_thrown l dC dI cA H.size y0 q1 q2 q3 q4 q5 rn 3 sf lf mn rf nf ct il gf) (cwV 0 hts gL_law_X2_thrown rfl rfl rfl hdX2_thrown ⟨Nat.le_of_ble_eq_true rfl, Nat.le_of_ble_eq_true rfl⟩) hP hK hD [9, 10, 11, 12, 13, 14] (by decide) rfl (va_recv hK hP (ci := 2) (q0 := 9) rfl rfl) rfl hl.1 rfl (Nat.le_of_ble_eq_true rfl) dL_law_226 hc1 hs1 ?_
        refine lv_iload hx hb dL_law_229 (lv_at hl 1 rfl) ?_
        refine lv_icmp_eq (tgt := 236) hx hb dL_law_231 (by decide) (fun c231 => ?_) (fun c231 => ?_)
        · refine lv_iload hx hb dL_law_236 (lv_at hl 1 rfl) ?_
          refine lv_if_ne (tgt := 253) hx hb dL_law_238 (by decide) (fun c238 => ?_) (fun c238 => ?_)
          · have c238 : ¬ 3 = 0 := g_neT 3 0 (by omega) (by omega) c238
            refine lv_goto (tgt := 1241) hx hb dL_law_253 (by decide) ?_
            exact kk rn L0 L1 _ _ _ _ _ ⟨f0, f1, n2, f2, n3, f3, 3, sf, lf, mn, rf, nf, ct, il, gf, fo, hP, hD, hS, hR0, hR1, hl0, hl1, hrn, hr6, hk0, hk1, hW⟩ (by omega) (by omega) (lv_sub hl [2, 3, 4, 5, 6] rfl)
          · exact absurd c238 (by decide)
        · exact absurd (by decide) c231

set_option maxHeartbeats 4000000 in
set_option maxRecDepth 100000 in
theorem lw_op_2 {p : Program} {l : Launch} {e : Env} {s : State} {m : MethodId} {below : List Frame} {meth : Method} {c : Code} {Q : State → Prop} {b L : Nat} {xs : Nat → Int32} {dC : Nat → ClassId} {dI : Nat → Nat → Nat} {cA cL : ClassId} {A : Nat → Prop} (E : lwE p l s m c b L xs dC dI cA cL A) {x0 r0 r1 r2 r3 a0 a1 a2 a3 y0 q1 q2 q3 q4 q5 o : Nat} {i : Nat} (hi : i + 4 ≤ L) {cells slots : Nat} (hC : cells + 1 ≤ 1053) (hS9 : slots + 6 ≤ 9402) {rn : Nat} {L0 L1 : List Int32} {H : Heap} {locs : List Loc} (hI : lwI dC dI cA cL A s.heap x0 r0 r1 r2 r3 a0 a1 a2 a3 y0 q1 q2 q3 q4 q5 o rn L0 L1 H locs) {ls : Array Slot} (hl : lv_has ls 9 [(4, .int (nI i)), (3, .ref o), (2, .ref y0), (1, .ref x0), (0, .ref b)])
    (kk : ∀ (rn : Nat) (L0 L1 : List Int32) (H : Heap) (locs : List Loc) (cells1 slots1 : Nat) (ls : Array Slot), lwI dC dI cA cL A s.heap x0 r0 r1 r2 r3 a0 a1 a2 a3 y0 q1 q2 q3 q4 q5 o rn L0 L1 H locs → cells1 ≤ cells + 1 → slots1 ≤ slots + 6 → lv_has ls 9 [(4, .int (nI i)), (3, .ref o), (2, .ref y0), (1, .ref x0), (0, .ref b)] → W p l e room_1 s m #[Value.ref b] below meth c H locs cells1 slots1 Q (F0 m 1241 ls [])) :
    W p l e room_1 s m #[Value.ref b] below meth c H locs cells slots Q (F0 m 256 ls []) := by
  obtain ⟨hx, hb, hml, hown, hts, hX, hbl, hbA, hA, htr, hKl, hZ, hL2⟩ := E
  obtain ⟨f0, f1, n2, f2, n3, f3, tv, sf, lf, mn, rf, nf, ct, il, gf, fo, hP, hD, hS, hR0, hR1, hl0, hl1, hrn, hr6, hk0, hk1, hW⟩ := hI
  have hK : va_K (dC, dI) vwCl [(cA, .int)] s := hKl.sub [0] rfl
  have hok := V2_ok hk0 hk1
  have hc0 : cells ≤ room_1.cells := (show cells ≤ 1053 from by omega)
  have hs0 : slots ≤ room_1.slots := (show slots ≤ 9402 from by omega)
  have hc1 : cells + 1 ≤ room_1.cells := hC
  have hs1 : slots + 6 ≤ room_1.slots := hS9
  rcases wd_ix (xs (i + 1)) with hbad | h1 | h1
  · refine lv_aload_n hx hb dL_law_256 rfl (lv_at hl 3 rfl) ?_
    refine lv_aload_n hx hb dL_law_257 rfl (lv_at hl 4 rfl) ?_
    refine lv_iload hx hb dL_law_258 (lv_at hl 0 rfl) ?_
    refine lv_iconst (v := 1) hx hb dL_law_260 (by decide) ?_
    refine lv_iadd hx hb dL_law_261 ?_
    rw [show (nI i) + 1 = nI (i + 1) from nI_add i 1]
    refine va_sld hx hb hX hbl hbA hS (vp_in_nI (by omega) (by omega)) dL_law_262 ?_
    rw [show (nI (i + 1)).toNatClampNeg = i + 1 from nI_clamp (by omega)]
    refine lv_aload_n hx hb dL_law_263 rfl (lv_at hl 1 rfl) ?_
    refine g_LS (As := [.ref x0, .int (xs (i + 1)), .ref o]) (rest := []) ⟨hx, hb, hml, hown, hts⟩ (mt_L_untwist_1 l htr dC dI cA cL H.size x0 (xs (i + 1)) r0 r1 r2 r3 (nI rn) o fo hbad) (vx_cwSW 3 hts gL_law_L_untwist rfl rfl rfl hdL_untwist ⟨Nat.le_of_ble_eq_true rfl, Nat.le_of_ble_eq_true rfl⟩) hP hKl hD hS hA hZ [0, 15] (by decide) rfl rfl hl.1 rfl (Nat.le_of_ble_eq_true rfl) dL_law_264 hc1 hs1 (fun u9 => [(x0, .inr (1, [.ref r0, .ref r1, .ref r2, .ref r3, .int (nI rn)])), (r0, .inr (0, [.ref a0, .int (nI L0.length)])), (a0, .inl (cA, (100, .inl f0))), (r1, .inr (0, [.ref a1, .int (nI L1.length)])), (a1, .inl (cA, (100, .inl f1))), (r2, .inr (0, [.ref a2, .int n2])), (a2, .inl (cA, (100, .inl f2))), (r3, .inr (0, [.ref a3, .int n3])), (a3, .inl (cA, (100, .inl f3))), (y0, .inr (2, [.int tv, .int (nI rn), .ref q1, .ref q2, .int mn, .ref q3, .ref q4, .int ct, .int il, .ref q5])), (q1, .inl (cA, (2, .inl sf))), (q2, .inl (cA, (60, .inl lf))), (q3, .inl (cA, (320, .inl rf))), (q4, .inl (cA, (320, .inl nf))), (q5, .inl (cA, (6, .inl gf))), (o, .inl (cL, (1, .inr (.inl fo))))]) (fun _ => rfl) (fun _ => rfl) (fun u H locs hw_1 hP hD hS => ?_)
    have hP : va_P (dC, dI) vwCl [(x0, .inr (1, [.ref r0, .ref r1, .ref r2, .ref r3, .int (nI rn)])), (r0, .inr (0, [.ref a0, .int (nI L0.length)])), (a0, .inl (cA, (100, .inl f0))), (r1, .inr (0, [.ref a1, .int (nI L1.length)])), (a1, .inl (cA, (100, .inl f1))), (r2, .inr (0, [.ref a2, .int n2])), (a2, .inl (cA, (100, .inl f2))), (r3, .inr (0, [.ref a3, .int n3])), (a3, .inl (cA, (100, .inl f3))), (y0, .inr (2, [.int tv, .int (nI rn), .ref q1, .ref q2, .int mn, .ref q3, .ref q4, .int ct, .int il, .ref q5])), (q1, .inl (cA, (2, .inl sf))), (q2, .inl (cA, (60, .inl lf))), (q3, .inl (cA, (320, .inl rf))), (q4, .inl (cA, (320, .inl nf))), (q5, .inl (cA, (6, .inl gf))), (o, .inl (cL, (1, .inr (.inl fo))))] H := hP
    have hD : va_D A [(x0, .inr (1, [.ref r0, .ref r1, .ref r2, .ref r3, .int (nI rn)])), (r0, .inr (0, [.ref a0, .int (nI L0.length)])), (a0, .inl (cA, (100, .inl f0))), (r1, .inr (0, [.ref a1, .int (nI L1.length)])), (a1, .inl (cA, (100, .inl f1))), (r2, .inr (0, [.ref a2, .int n2])), (a2, .inl (cA, (100, .inl f2))), (r3, .inr (0, [.ref a3, .int n3])), (a3, .inl (cA, (100, .inl f3))), (y0, .inr (2, [.int tv, .int (nI rn), .ref q1, .ref q2, .int mn, .ref q3, .ref q4, .int ct, .int il, .ref q5])), (q1, .inl (cA, (2, .inl sf))), (q2, .inl (cA, (60, .inl lf))), (q3, .inl (cA, (320, .inl rf))), (q4, .inl (cA, (320, .inl nf))), (q5, .inl (cA, (6, .inl gf))), (o, .inl (cL, (1, .inr (.inl fo))))] := hD
    refine lv_istore (lv' := [(5, .int 1), (4, .int (nI i)), (3, .ref o), (2, .ref y0), (1, .ref x0), (0, .ref b)]) hx hb dL_law_267 hl (by decide) rfl (fun ls hl => ?_)
    refine lv_aload_n hx hb dL_law_269 rfl (lv_at hl 3 rfl) ?_
    refine lv_aload_n hx hb dL_law_270 rfl (lv_at hl 5 rfl) ?_
    refine lv_iload hx hb dL_law_271 (lv_at hl 1 rfl) ?_
    refine lv_iconst (v := 1) hx hb dL_law_273 (by decide) ?_
    refine lv_iadd hx hb dL_law_274 ?_
    rw [show (nI i) + 1 = nI (i + 1) from nI_add i 1]
    refine va_sld hx hb hX hbl hbA hS (vp_in_nI (by omega) (by omega)) dL_law_275 ?_
    rw [show (nI (i + 1)).toNatClampNeg = i + 1 from nI_clamp (by omega)]
    refine g_MVi (As := [.int (xs (i + 1))]) (rest := []) ⟨hx, hb, hml, hown, hts⟩ (mt_X2_untwist_1 l dC dI cA H.size y0 q1 q2 q3 q4 q5 rn tv sf lf mn rf nf ct il gf (xs (i + 1)) hbad) (cwV 1 hts gL_law_X2_untwist rfl rfl rfl hdX2_untwist ⟨Nat.le_of_ble_eq_true rfl, Nat.le_of_ble_eq_true rfl⟩) hP hK hD hS hA [9, 10, 11, 12, 13, 14] (by decide) rfl (va_recv hK hP (ci := 2) (q0 := 9) rfl rfl) rfl hl.1 rfl (Nat.le_of_ble_eq_true rfl) dL_law_276 hc1 hs1 (fun u9 => [(x0, .inr (1, [.ref r0, .ref r1, .ref r2, .ref r3, .int (nI rn)])), (r0, .inr (0, [.ref a0, .int (nI L0.length)])), (a0, .inl (cA, (100, .inl f0))), (r1, .inr (0, [.ref a1, .int (nI L1.length)])), (a1, .inl (cA, (100, .inl f1))), (r2, .inr (0, [.ref a2, .int n2])), (a2, .inl (cA, (100, .inl f2))), (r3, .inr (0, [.ref a3, .int n3])), (a3, .inl (cA, (100, .inl f3))), (y0, .inr (2, [.int 1, .int (nI rn), .ref q1, .ref q2, .int mn, .ref q3, .ref q4, .int ct, .int il, .ref q5])), (q1, .inl (cA, (2, .inl sf))), (q2, .inl (cA, (60, .inl lf))), (q3, .inl (cA, (320, .inl rf))), (q4, .inl (cA, (320, .inl nf))), (q5, .inl (cA, (6, .inl gf))), (o, .inl (cL, (1, .inr (.inl fo))))]) (fun _ => rfl) (fun _ => rfl) (fun u H locs hw_2 hP hD hS => ?_)
    have hw_2 : True := hw_2
    have hP : va_P (dC, dI) vwCl [(x0, .inr (1, [.ref r0, .ref r1, .ref r2, .ref r3, .int (nI rn)])), (r0, .inr (0, [.ref a0, .int (nI L0.length)])), (a0, .inl (cA, (100, .inl f0))), (r1, .inr (0, [.ref a1, .int (nI L1.length)])), (a1, .inl (cA, (100, .inl f1))), (r2, .inr (0, [.ref a2, .int n2])), (a2, .inl (cA, (100, .inl f2))), (r3, .inr (0, [.ref a3, .int n3])), (a3, .inl (cA, (100, .inl f3))), (y0, .inr (2, [.int 1, .int (nI rn), .ref q1, .ref q2, .int mn, .ref q3, .ref q4, .int ct, .int il, .ref q5])), (q1, .inl (cA, (2, .inl sf))), (q2, .inl (cA, (60, .inl lf))), (q3, .inl (cA, (320, .inl rf))), (q4, .inl (cA, (320, .inl nf))), (q5, .inl (cA, (6, .inl gf))), (o, .inl (cL, (1, .inr (.inl fo))))] H := hP
    have hD : va_D A [(x0, .inr (1, [.ref r0, .ref r1, .ref r2, .ref r3, .int (nI rn)])), (r0, .inr (0, [.ref a0, .int (nI L0.length)])), (a0, .inl (cA, (100, .inl f0))), (r1, .inr (0, [.ref a1, .int (nI L1.length)])), (a1, .inl (cA, (100, .inl f1))), (r2, .inr (0, [.ref a2, .int n2])), (a2, .inl (cA, (100, .inl f2))), (r3, .inr (0, [.ref a3, .int n3])), (a3, .inl (cA, (100, .inl f3))), (y0, .inr (2, [.int 1, .int (nI rn), .ref q1, .ref q2, .int mn, .ref q3, .ref q4, .int ct, .int il, .ref q5])), (q1, .inl (cA, (2, .inl sf))), (q2, .inl (cA, (60, .inl lf))), (q3, .inl (cA, (320, .inl rf))), (q4, .inl (cA, (320, .inl nf))), (q5, .inl (cA, (6, .inl gf))), (o, .inl (cL, (1, .inr (.inl fo))))] := hD
    refine lv_istore (lv' := [(6, .int 0), (5, .int 1), (4, .int (nI i)), (3, .ref o), (2, .ref y0), (1, .ref x0), (0, .ref b)]) hx hb dL_law_279 hl (by decide) rfl (fun ls hl => ?_)
    refine lv_aload_n hx hb dL_law_281 rfl (lv_at hl 4 rfl) ?_
    refine g_RVi (As := []) (rest := []) ⟨hx, hb, hml, hown, hts⟩ (mt_X2_thrown l dC dI cA H.size y0 q1 q2 q3 q4 q5 rn 1 sf lf mn rf nf ct il gf) (cwV 0 hts gL_law_X2_thrown rfl rfl rfl hdX2_thrown ⟨Nat.le_of_ble_eq_true rfl, Nat.le_of_ble_eq_true rfl⟩) hP hK hD [9, 10, 11, 12, 13, 14] (by decide) rfl (va_recv hK hP (ci := 2) (q0 := 9) rfl rfl) rfl hl.1 rfl (Nat.le_of_ble_eq_true rfl) dL_law_282 hc1 hs1 ?_
    refine lv_iload hx hb dL_law_285 (lv_at hl 1 rfl) ?_
    refine lv_icmp_eq (tgt := 292) hx hb dL_law_287 (by decide) (fun c287 => ?_) (fun c287 => ?_)
    · refine lv_iload hx hb dL_law_292 (lv_at hl 1 rfl) ?_
      refine lv_if_ne (tgt := 309) hx hb dL_law_294 (by decide) (fun c294 => ?_) (fun c294 => ?_)
      · have c294 : ¬ 1 = 0 := g_neT 1 0 (by omega) (by omega) c294
        refine lv_goto (tgt := 1241) hx hb dL_law_309 (by decide) ?_
        exact kk rn L0 L1 _ _ _ _ _ ⟨f0, f1, n2, f2, n3, f3, 1, sf, lf, mn, rf, nf, ct, il, gf, fo, hP, hD, hS, hR0, hR1, hl0, hl1, hrn, hr6, hk0, hk1, hW⟩ (by omega) (by omega) (lv_sub hl [2, 3, 4, 5, 6] rfl)
      · exact absurd c294 (by decide)
    · exact absurd (by decide) c287
  · by_cases hk : 0 < L0.length
    · refine lv_aload_n hx hb dL_law_256 rfl (lv_at hl 3 rfl) ?_
      refine lv_aload_n hx hb dL_law_257 rfl (lv_at hl 4 rfl) ?_
      refine lv_iload hx hb dL_law_258 (lv_at hl 0 rfl) ?_
      refine lv_iconst (v := 1) hx hb dL_law_260 (by decide) ?_
      refine lv_iadd hx hb dL_law_261 ?_
      rw [show (nI i) + 1 = nI (i + 1) from nI_add i 1]
      refine va_sld hx hb hX hbl hbA hS (vp_in_nI (by omega) (by omega)) dL_law_262 ?_
      rw [show (nI (i + 1)).toNatClampNeg = i + 1 from nI_clamp (by omega)]
      rw [h1]
      refine lv_aload_n hx hb dL_law_263 rfl (lv_at hl 1 rfl) ?_
      refine g_LS (As := [.ref x0, .int (nI 0), .ref o]) (rest := []) ⟨hx, hb, hml, hown, hts⟩ (mt_L_untwist0 l htr dC dI cA cL H.size x0 r0 r1 r2 r3 rn a0 L0 f0 o fo hR0 hk) (vx_cwSW 3 hts gL_law_L_untwist rfl rfl rfl hdL_untwist ⟨Nat.le_of_ble_eq_true rfl, Nat.le_of_ble_eq_true rfl⟩) hP hKl hD hS hA hZ [0, 1, 2, 15] (by decide) rfl rfl hl.1 rfl (Nat.le_of_ble_eq_true rfl) dL_law_264 hc0 hs0 (fun u9 => [(x0, .inr (1, [.ref r0, .ref r1, .ref r2, .ref r3, .int (nI rn)])), (r0, .inr (0, [.ref a0, .int (nI L0.dropLast.length)])), (a0, .inl (cA, (100, .inl f0))), (r1, .inr (0, [.ref a1, .int (nI L1.length)])), (a1, .inl (cA, (100, .inl f1))), (r2, .inr (0, [.ref a2, .int n2])), (a2, .inl (cA, (100, .inl f2))), (r3, .inr (0, [.ref a3, .int n3])), (a3, .inl (cA, (100, .inl f3))), (y0, .inr (2, [.int tv, .int (nI rn), .ref q1, .ref q2, .int mn, .ref q3, .ref q4, .int ct, .int il, .ref q5])), (q1, .inl (cA, (2, .inl sf))), (q2, .inl (cA, (60, .inl lf))), (q3, .inl (cA, (320, .inl rf))), (q4, .inl (cA, (320, .inl nf))), (q5, .inl (cA, (6, .inl gf))), (o, .inl (cL, (1, .inr (.inl (vp_updL fo 0 (atL L0 (L0.length - 1)).toInt64)))))]) (fun _ => rfl) (fun _ => rfl) (fun u H locs hw_1 hP hD hS => ?_)
      have hP : va_P (dC, dI) vwCl [(x0, .inr (1, [.ref r0, .ref r1, .ref r2, .ref r3, .int (nI rn)])), (r0, .inr (0, [.ref a0, .int (nI L0.dropLast.length)])), (a0, .inl (cA, (100, .inl f0))), (r1, .inr (0, [.ref a1, .int (nI L1.length)])), (a1, .inl (cA, (100, .inl f1))), (r2, .inr (0, [.ref a2, .int n2])), (a2, .inl (cA, (100, .inl f2))), (r3, .inr (0, [.ref a3, .int n3])), (a3, .inl (cA, (100, .inl f3))), (y0, .inr (2, [.int tv, .int (nI rn), .ref q1, .ref q2, .int mn, .ref q3, .ref q4, .int ct, .int il, .ref q5])), (q1, .inl (cA, (2, .inl sf))), (q2, .inl (cA, (60, .inl lf))), (q3, .inl (cA, (320, .inl rf))), (q4, .inl (cA, (320, .inl nf))), (q5, .inl (cA, (6, .inl gf))), (o, .inl (cL, (1, .inr (.inl (vp_updL fo 0 (atL L0 (L0.length - 1)).toInt64)))))] H := hP
      have hD : va_D A [(x0, .inr (1, [.ref r0, .ref r1, .ref r2, .ref r3, .int (nI rn)])), (r0, .inr (0, [.ref a0, .int (nI L0.dropLast.length)])), (a0, .inl (cA, (100, .inl f0))), (r1, .inr (0, [.ref a1, .int (nI L1.length)])), (a1, .inl (cA, (100, .inl f1))), (r2, .inr (0, [.ref a2, .int n2])), (a2, .inl (cA, (100, .inl f2))), (r3, .inr (0, [.ref a3, .int n3])), (a3, .inl (cA, (100, .inl f3))), (y0, .inr (2, [.int tv, .int (nI rn), .ref q1, .ref q2, .int mn, .ref q3, .ref q4, .int ct, .int il, .ref q5])), (q1, .inl (cA, (2, .inl sf))), (q2, .inl (cA, (60, .inl lf))), (q3, .inl (cA, (320, .inl rf))), (q4, .inl (cA, (320, .inl nf))), (q5, .inl (cA, (6, .inl gf))), (o, .inl (cL, (1, .inr (.inl (vp_updL fo 0 (atL L0 (L0.length - 1)).toInt64)))))] := hD
      refine lv_istore (lv' := [(5, .int 0), (4, .int (nI i)), (3, .ref o), (2, .ref y0), (1, .ref x0), (0, .ref b)]) hx hb dL_law_267 hl (by decide) rfl (fun ls hl => ?_)
      refine lv_aload_n hx hb dL_law_269 rfl (lv_at hl 3 rfl) ?_
      refine lv_aload_n hx hb dL_law_270 rfl (lv_at hl 5 rfl) ?_
      refine lv_iload hx hb dL_law_271 (lv_at hl 1 rfl) ?_
      refine lv_iconst (v := 1) hx hb dL_law_273 (by decide) ?_
      refine lv_iadd hx hb dL_law_274 ?_
      rw [show (nI i) + 1 = nI (i + 1) from nI_add i 1]
      refine va_sld hx hb hX hbl hbA hS (vp_in_nI (by omega) (by omega)) dL_law_275 ?_
      rw [show (nI (i + 1)).toNatClampNeg = i + 1 from nI_clamp (by omega)]
      rw [h1]
      refine g_MVi (As := [.int (nI 0)]) (rest := []) ⟨hx, hb, hml, hown, hts⟩ (mt_X2_untwist l dC dI cA H.size y0 q1 q2 q3 q4 q5 rn tv sf lf mn rf nf ct il gf (V2 L0 L1) 0 hW (by omega) hk) (cwV 1 hts gL_law_X2_untwist rfl rfl rfl hdX2_untwist ⟨Nat.le_of_ble_eq_true rfl, Nat.le_of_ble_eq_true rfl⟩) hP hK hD hS hA [9, 10, 11, 12, 13, 14] (by decide) rfl (va_recv hK hP (ci := 2) (q0 := 9) rfl rfl) rfl hl.1 rfl (Nat.le_of_ble_eq_true rfl) dL_law_276 hc0 hs0 (fun u9 => [(x0, .inr (1, [.ref r0, .ref r1, .ref r2, .ref r3, .int (nI rn)])), (r0, .inr (0, [.ref a0, .int (nI L0.dropLast.length)])), (a0, .inl (cA, (100, .inl f0))), (r1, .inr (0, [.ref a1, .int (nI L1.length)])), (a1, .inl (cA, (100, .inl f1))), (r2, .inr (0, [.ref a2, .int n2])), (a2, .inl (cA, (100, .inl f2))), (r3, .inr (0, [.ref a3, .int n3])), (a3, .inl (cA, (100, .inl f3))), (y0, .inr (2, [.int 0, .int (nI rn), .ref q1, .ref q2, .int mn, .ref q3, .ref q4, .int ct, .int il, .ref q5])), (q1, .inl (cA, (2, .inl u9))), (q2, .inl (cA, (60, .inl lf))), (q3, .inl (cA, (320, .inl rf))), (q4, .inl (cA, (320, .inl nf))), (q5, .inl (cA, (6, .inl gf))), (o, .inl (cL, (1, .inr (.inl (vp_updL fo 0 (atL L0 (L0.length - 1)).toInt64)))))]) (fun _ => rfl) (fun _ => rfl) (fun u H locs hw_3 hP hD hS => ?_)
      obtain ⟨s1_2, rfl⟩ : ∃ z, z = u := ⟨_, rfl⟩
      have hw_3 : MW (upW (V2 L0 L1) 0 ((V2 L0 L1) 0).dropLast) s1_2 lf := hw_3
      have hP : va_P (dC, dI) vwCl [(x0, .inr (1, [.ref r0, .ref r1, .ref r2, .ref r3, .int (nI rn)])), (r0, .inr (0, [.ref a0, .int (nI L0.dropLast.length)])), (a0, .inl (cA, (100, .inl f0))), (r1, .inr (0, [.ref a1, .int (nI L1.length)])), (a1, .inl (cA, (100, .inl f1))), (r2, .inr (0, [.ref a2, .int n2])), (a2, .inl (cA, (100, .inl f2))), (r3, .inr (0, [.ref a3, .int n3])), (a3, .inl (cA, (100, .inl f3))), (y0, .inr (2, [.int 0, .int (nI rn), .ref q1, .ref q2, .int mn, .ref q3, .ref q4, .int ct, .int il, .ref q5])), (q1, .inl (cA, (2, .inl s1_2))), (q2, .inl (cA, (60, .inl lf))), (q3, .inl (cA, (320, .inl rf))), (q4, .inl (cA, (320, .inl nf))), (q5, .inl (cA, (6, .inl gf))), (o, .inl (cL, (1, .inr (.inl (vp_updL fo 0 (atL L0 (L0.length - 1)).toInt64)))))] H := hP
      have hD : va_D A [(x0, .inr (1, [.ref r0, .ref r1, .ref r2, .ref r3, .int (nI rn)])), (r0, .inr (0, [.ref a0, .int (nI L0.dropLast.length)])), (a0, .inl (cA, (100, .inl f0))), (r1, .inr (0, [.ref a1, .int (nI L1.length)])), (a1, .inl (cA, (100, .inl f1))), (r2, .inr (0, [.ref a2, .int n2])), (a2, .inl (cA, (100, .inl f2))), (r3, .inr (0, [.ref a3, .int n3])), (a3, .inl (cA, (100, .inl f3))), (y0, .inr (2, [.int 0, .int (nI rn), .ref q1, .ref q2, .int mn, .ref q3, .ref q4, .int ct, .int il, .ref q5])), (q1, .inl (cA, (2, .inl s1_2))), (q2, .inl (cA, (60, .inl lf))), (q3, .inl (cA, (320, .inl rf))), (q4, .inl (cA, (320, .inl nf))), (q5, .inl (cA, (6, .inl gf))), (o, .inl (cL, (1, .inr (.inl (vp_updL fo 0 (atL L0 (L0.length - 1)).toInt64)))))] := hD
      refine lv_istore (lv' := [(6, .int (atL ((V2 L0 L1) 0) (((V2 L0 L1) 0).length - 1))), (5, .int 0), (4, .int (nI i)), (3, .ref o), (2, .ref y0), (1, .ref x0), (0, .ref b)]) hx hb dL_law_279 hl (by decide) rfl (fun ls hl => ?_)
      refine lv_aload_n hx hb dL_law_281 rfl (lv_at hl 4 rfl) ?_
      refine g_RVi (As := []) (rest := []) ⟨hx, hb, hml, hown, hts⟩ (mt_X2_thrown l dC dI cA H.size y0 q1 q2 q3 q4 q5 rn 0 s1_2 lf mn rf nf ct il gf) (cwV 0 hts gL_law_X2_thrown rfl rfl rfl hdX2_thrown ⟨Nat.le_of_ble_eq_true rfl, Nat.le_of_ble_eq_true rfl⟩) hP hK hD [9, 10, 11, 12, 13, 14] (by decide) rfl (va_recv hK hP (ci := 2) (q0 := 9) rfl rfl) rfl hl.1 rfl (Nat.le_of_ble_eq_true rfl) dL_law_282 hc0 hs0 ?_
      refine lv_iload hx hb dL_law_285 (lv_at hl 1 rfl) ?_
      refine lv_icmp_eq (tgt := 292) hx hb dL_law_287 (by decide) (fun c287 => ?_) (fun c287 => ?_)
      · refine lv_iload hx hb dL_law_292 (lv_at hl 1 rfl) ?_
        refine lv_if_ne (tgt := 309) hx hb dL_law_294 (by decide) (fun c294 => ?_) (fun c294 => ?_)
        · exact absurd (by decide) c294
        · have c294 : 0 = 0 := g_neF 0 0 (by omega) (by omega) c294
          refine lv_aload_n hx hb dL_law_297 rfl (lv_at hl 3 rfl) ?_
          refine lv_iconst (v := 0) hx hb dL_law_298 (by decide) ?_
          refine va_lald hx hb hKl hP 15 1 rfl rfl (vp_in_nI (n := 0) (by omega) (by decide)) dL_law_299 ?_
          rw [show (0 : Int32).toNatClampNeg = 0 from by decide, pk_uLs]
          refine lv_iload hx hb dL_law_300 (lv_at hl 0 rfl) ?_
          refine lv_i2l (v := (atL ((V2 L0 L1) 0) (((V2 L0 L1) 0).length - 1)).toInt64) hx hb dL_law_302 rfl ?_
          refine W.lcmp hx hb dL_law_303 ?_
          rw [show lg_cmp ((atL L0 (L0.length - 1)).toInt64) ((atL ((V2 L0 L1) 0) (((V2 L0 L1) 0).length - 1)).toInt64) = 0 from (lg_cmp_eq _ _).mpr rfl]
          refine lv_if_eq (tgt := 309) hx hb dL_law_304 (by decide) (fun c304 => ?_) (fun c304 => ?_)
          · have c304 : 0 = 0 := g_eqT 0 0 (by omega) (by omega) c304
            refine lv_goto (tgt := 1241) hx hb dL_law_309 (by decide) ?_
            exact kk rn L0.dropLast L1 _ _ _ _ _ ⟨f0, f1, n2, f2, n3, f3, 0, s1_2, lf, mn, rf, nf, ct, il, gf, vp_updL fo 0 (atL L0 (L0.length - 1)).toInt64, hP, hD, hS, RI_dropLast hR0, hR1, by rw [List.length_dropLast]; omega, hl1, hrn, hr6, okL_drop hk0, hk1, MW_c0 hw_3⟩ (by omega) (by omega) (lv_sub hl [2, 3, 4, 5, 6] rfl)
          · exact absurd (by decide) c304
      · exact absurd (by decide) c287
    · refine lv_aload_n hx hb dL_law_256 rfl (lv_at hl 3 rfl) ?_
      refine lv_aload_n hx hb dL_law_257 rfl (lv_at hl 4 rfl) ?_
      refine lv_iload hx hb dL_law_258 (lv_at hl 0 rfl) ?_
      refine lv_iconst (v := 1) hx hb dL_law_260 (by decide) ?_
      refine lv_iadd hx hb dL_law_261 ?_
      rw [show (nI i) + 1 = nI (i + 1) from nI_add i 1]
      refine va_sld hx hb hX hbl hbA hS (vp_in_nI (by omega) (by omega)) dL_law_262 ?_
      rw [show (nI (i + 1)).toNatClampNeg = i + 1 from nI_clamp (by omega)]
      rw [h1]
      refine lv_aload_n hx hb dL_law_263 rfl (lv_at hl 1 rfl) ?_
      refine g_LS (As := [.ref x0, .int (nI 0), .ref o]) (rest := []) ⟨hx, hb, hml, hown, hts⟩ (mt_L_untwist_2_0 l htr dC dI cA cL H.size x0 r0 r1 r2 r3 rn a0 L0 f0 o fo hR0 (by omega)) (vx_cwSW 3 hts gL_law_L_untwist rfl rfl rfl hdL_untwist ⟨Nat.le_of_ble_eq_true rfl, Nat.le_of_ble_eq_true rfl⟩) hP hKl hD hS hA hZ [0, 1, 2, 15] (by decide) rfl rfl hl.1 rfl (Nat.le_of_ble_eq_true rfl) dL_law_264 hc1 hs1 (fun u9 => [(x0, .inr (1, [.ref r0, .ref r1, .ref r2, .ref r3, .int (nI rn)])), (r0, .inr (0, [.ref a0, .int (nI L0.length)])), (a0, .inl (cA, (100, .inl f0))), (r1, .inr (0, [.ref a1, .int (nI L1.length)])), (a1, .inl (cA, (100, .inl f1))), (r2, .inr (0, [.ref a2, .int n2])), (a2, .inl (cA, (100, .inl f2))), (r3, .inr (0, [.ref a3, .int n3])), (a3, .inl (cA, (100, .inl f3))), (y0, .inr (2, [.int tv, .int (nI rn), .ref q1, .ref q2, .int mn, .ref q3, .ref q4, .int ct, .int il, .ref q5])), (q1, .inl (cA, (2, .inl sf))), (q2, .inl (cA, (60, .inl lf))), (q3, .inl (cA, (320, .inl rf))), (q4, .inl (cA, (320, .inl nf))), (q5, .inl (cA, (6, .inl gf))), (o, .inl (cL, (1, .inr (.inl fo))))]) (fun _ => rfl) (fun _ => rfl) (fun u H locs hw_1 hP hD hS => ?_)
      have hP : va_P (dC, dI) vwCl [(x0, .inr (1, [.ref r0, .ref r1, .ref r2, .ref r3, .int (nI rn)])), (r0, .inr (0, [.ref a0, .int (nI L0.length)])), (a0, .inl (cA, (100, .inl f0))), (r1, .inr (0, [.ref a1, .int (nI L1.length)])), (a1, .inl (cA, (100, .inl f1))), (r2, .inr (0, [.ref a2, .int n2])), (a2, .inl (cA, (100, .inl f2))), (r3, .inr (0, [.ref a3, .int n3])), (a3, .inl (cA, (100, .inl f3))), (y0, .inr (2, [.int tv, .int (nI rn), .ref q1, .ref q2, .int mn, .ref q3, .ref q4, .int ct, .int il, .ref q5])), (q1, .inl (cA, (2, .inl sf))), (q2, .inl (cA, (60, .inl lf))), (q3, .inl (cA, (320, .inl rf))), (q4, .inl (cA, (320, .inl nf))), (q5, .inl (cA, (6, .inl gf))), (o, .inl (cL, (1, .inr (.inl fo))))] H := hP
      have hD : va_D A [(x0, .inr (1, [.ref r0, .ref r1, .ref r2, .ref r3, .int (nI rn)])), (r0, .inr (0, [.ref a0, .int (nI L0.length)])), (a0, .inl (cA, (100, .inl f0))), (r1, .inr (0, [.ref a1, .int (nI L1.length)])), (a1, .inl (cA, (100, .inl f1))), (r2, .inr (0, [.ref a2, .int n2])), (a2, .inl (cA, (100, .inl f2))), (r3, .inr (0, [.ref a3, .int n3])), (a3, .inl (cA, (100, .inl f3))), (y0, .inr (2, [.int tv, .int (nI rn), .ref q1, .ref q2, .int mn, .ref q3, .ref q4, .int ct, .int il, .ref q5])), (q1, .inl (cA, (2, .inl sf))), (q2, .inl (cA, (60, .inl lf))), (q3, .inl (cA, (320, .inl rf))), (q4, .inl (cA, (320, .inl nf))), (q5, .inl (cA, (6, .inl gf))), (o, .inl (cL, (1, .inr (.inl fo))))] := hD
      refine lv_istore (lv' := [(5, .int 2), (4, .int (nI i)), (3, .ref o), (2, .ref y0), (1, .ref x0), (0, .ref b)]) hx hb dL_law_267 hl (by decide) rfl (fun ls hl => ?_)
      refine lv_aload_n hx hb dL_law_269 rfl (lv_at hl 3 rfl) ?_
      refine lv_aload_n hx hb dL_law_270 rfl (lv_at hl 5 rfl) ?_
      refine lv_iload hx hb dL_law_271 (lv_at hl 1 rfl) ?_
      refine lv_iconst (v := 1) hx hb dL_law_273 (by decide) ?_
      refine lv_iadd hx hb dL_law_274 ?_
      rw [show (nI i) + 1 = nI (i + 1) from nI_add i 1]
      refine va_sld hx hb hX hbl hbA hS (vp_in_nI (by omega) (by omega)) dL_law_275 ?_
      rw [show (nI (i + 1)).toNatClampNeg = i + 1 from nI_clamp (by omega)]
      rw [h1]
      refine g_MVi (As := [.int (nI 0)]) (rest := []) ⟨hx, hb, hml, hown, hts⟩ (mt_X2_untwist_2 l dC dI cA H.size y0 q1 q2 q3 q4 q5 rn tv sf lf mn rf nf ct il gf (V2 L0 L1) 0 hW (by omega) (show L0.length = 0 from by omega)) (cwV 1 hts gL_law_X2_untwist rfl rfl rfl hdX2_untwist ⟨Nat.le_of_ble_eq_true rfl, Nat.le_of_ble_eq_true rfl⟩) hP hK hD hS hA [9, 10, 11, 12, 13, 14] (by decide) rfl (va_recv hK hP (ci := 2) (q0 := 9) rfl rfl) rfl hl.1 rfl (Nat.le_of_ble_eq_true rfl) dL_law_276 hc1 hs1 (fun u9 => [(x0, .inr (1, [.ref r0, .ref r1, .ref r2, .ref r3, .int (nI rn)])), (r0, .inr (0, [.ref a0, .int (nI L0.length)])), (a0, .inl (cA, (100, .inl f0))), (r1, .inr (0, [.ref a1, .int (nI L1.length)])), (a1, .inl (cA, (100, .inl f1))), (r2, .inr (0, [.ref a2, .int n2])), (a2, .inl (cA, (100, .inl f2))), (r3, .inr (0, [.ref a3, .int n3])), (a3, .inl (cA, (100, .inl f3))), (y0, .inr (2, [.int 2, .int (nI rn), .ref q1, .ref q2, .int mn, .ref q3, .ref q4, .int ct, .int il, .ref q5])), (q1, .inl (cA, (2, .inl sf))), (q2, .inl (cA, (60, .inl lf))), (q3, .inl (cA, (320, .inl rf))), (q4, .inl (cA, (320, .inl nf))), (q5, .inl (cA, (6, .inl gf))), (o, .inl (cL, (1, .inr (.inl fo))))]) (fun _ => rfl) (fun _ => rfl) (fun u H locs hw_2 hP hD hS => ?_)
      have hw_2 : True := hw_2
      have hP : va_P (dC, dI) vwCl [(x0, .inr (1, [.ref r0, .ref r1, .ref r2, .ref r3, .int (nI rn)])), (r0, .inr (0, [.ref a0, .int (nI L0.length)])), (a0, .inl (cA, (100, .inl f0))), (r1, .inr (0, [.ref a1, .int (nI L1.length)])), (a1, .inl (cA, (100, .inl f1))), (r2, .inr (0, [.ref a2, .int n2])), (a2, .inl (cA, (100, .inl f2))), (r3, .inr (0, [.ref a3, .int n3])), (a3, .inl (cA, (100, .inl f3))), (y0, .inr (2, [.int 2, .int (nI rn), .ref q1, .ref q2, .int mn, .ref q3, .ref q4, .int ct, .int il, .ref q5])), (q1, .inl (cA, (2, .inl sf))), (q2, .inl (cA, (60, .inl lf))), (q3, .inl (cA, (320, .inl rf))), (q4, .inl (cA, (320, .inl nf))), (q5, .inl (cA, (6, .inl gf))), (o, .inl (cL, (1, .inr (.inl fo))))] H := hP
      have hD : va_D A [(x0, .inr (1, [.ref r0, .ref r1, .ref r2, .ref r3, .int (nI rn)])), (r0, .inr (0, [.ref a0, .int (nI L0.length)])), (a0, .inl (cA, (100, .inl f0))), (r1, .inr (0, [.ref a1, .int (nI L1.length)])), (a1, .inl (cA, (100, .inl f1))), (r2, .inr (0, [.ref a2, .int n2])), (a2, .inl (cA, (100, .inl f2))), (r3, .inr (0, [.ref a3, .int n3])), (a3, .inl (cA, (100, .inl f3))), (y0, .inr (2, [.int 2, .int (nI rn), .ref q1, .ref q2, .int mn, .ref q3, .ref q4, .int ct, .int il, .ref q5])), (q1, .inl (cA, (2, .inl sf))), (q2, .inl (cA, (60, .inl lf))), (q3, .inl (cA, (320, .inl rf))), (q4, .inl (cA, (320, .inl nf))), (q5, .inl (cA, (6, .inl gf))), (o, .inl (cL, (1, .inr (.inl fo))))] := hD
      refine lv_istore (lv' := [(6, .int 0), (5, .int 2), (4, .int (nI i)), (3, .ref o), (2, .ref y0), (1, .ref x0), (0, .ref b)]) hx hb dL_law_279 hl (by decide) rfl (fun ls hl => ?_)
      refine lv_aload_n hx hb dL_law_281 rfl (lv_at hl 4 rfl) ?_
      refine g_RVi (As := []) (rest := []) ⟨hx, hb, hml, hown, hts⟩ (mt_X2_thrown l dC dI cA H.size y0 q1 q2 q3 q4 q5 rn 2 sf lf mn rf nf ct il gf) (cwV 0 hts gL_law_X2_thrown rfl rfl rfl hdX2_thrown ⟨Nat.le_of_ble_eq_true rfl, Nat.le_of_ble_eq_true rfl⟩) hP hK hD [9, 10, 11, 12, 13, 14] (by decide) rfl (va_recv hK hP (ci := 2) (q0 := 9) rfl rfl) rfl hl.1 rfl (Nat.le_of_ble_eq_true rfl) dL_law_282 hc1 hs1 ?_
      refine lv_iload hx hb dL_law_285 (lv_at hl 1 rfl) ?_
      refine lv_icmp_eq (tgt := 292) hx hb dL_law_287 (by decide) (fun c287 => ?_) (fun c287 => ?_)
      · refine lv_iload hx hb dL_law_292 (lv_at hl 1 rfl) ?_
        refine lv_if_ne (tgt := 309) hx hb dL_law_294 (by decide) (fun c294 => ?_) (fun c294 => ?_)
        · have c294 : ¬ 2 = 0 := g_neT 2 0 (by omega) (by omega) c294
          refine lv_goto (tgt := 1241) hx hb dL_law_309 (by decide) ?_
          exact kk rn L0 L1 _ _ _ _ _ ⟨f0, f1, n2, f2, n3, f3, 2, sf, lf, mn, rf, nf, ct, il, gf, fo, hP, hD, hS, hR0, hR1, hl0, hl1, hrn, hr6, hk0, hk1, hW⟩ (by omega) (by omega) (lv_sub hl [2, 3, 4, 5, 6] rfl)
        · exact absurd c294 (by decide)
      · exact absurd (by decide) c287
  · by_cases hk : 0 < L1.length
    · refine lv_aload_n hx hb dL_law_256 rfl (lv_at hl 3 rfl) ?_
      refine lv_aload_n hx hb dL_law_257 rfl (lv_at hl 4 rfl) ?_
      refine lv_iload hx hb dL_law_258 (lv_at hl 0 rfl) ?_
      refine lv_iconst (v := 1) hx hb dL_law_260 (by decide) ?_
      refine lv_iadd hx hb dL_law_261 ?_
      rw [show (nI i) + 1 = nI (i + 1) from nI_add i 1]
      refine va_sld hx hb hX hbl hbA hS (vp_in_nI (by omega) (by omega)) dL_law_262 ?_
      rw [show (nI (i + 1)).toNatClampNeg = i + 1 from nI_clamp (by omega)]
      rw [h1]
      refine lv_aload_n hx hb dL_law_263 rfl (lv_at hl 1 rfl) ?_
      refine g_LS (As := [.ref x0, .int (nI 1), .ref o]) (rest := []) ⟨hx, hb, hml, hown, hts⟩ (mt_L_untwist1 l htr dC dI cA cL H.size x0 r0 r1 r2 r3 rn a1 L1 f1 o fo hR1 hk) (vx_cwSW 3 hts gL_law_L_untwist rfl rfl rfl hdL_untwist ⟨Nat.le_of_ble_eq_true rfl, Nat.le_of_ble_eq_true rfl⟩) hP hKl hD hS hA hZ [0, 3, 4, 15] (by decide) rfl rfl hl.1 rfl (Nat.le_of_ble_eq_true rfl) dL_law_264 hc0 hs0 (fun u9 => [(x0, .inr (1, [.ref r0, .ref r1, .ref r2, .ref r3, .int (nI rn)])), (r0, .inr (0, [.ref a0, .int (nI L0.length)])), (a0, .inl (cA, (100, .inl f0))), (r1, .inr (0, [.ref a1, .int (nI L1.dropLast.length)])), (a1, .inl (cA, (100, .inl f1))), (r2, .inr (0, [.ref a2, .int n2])), (a2, .inl (cA, (100, .inl f2))), (r3, .inr (0, [.ref a3, .int n3])), (a3, .inl (cA, (100, .inl f3))), (y0, .inr (2, [.int tv, .int (nI rn), .ref q1, .ref q2, .int mn, .ref q3, .ref q4, .int ct, .int il, .ref q5])), (q1, .inl (cA, (2, .inl sf))), (q2, .inl (cA, (60, .inl lf))), (q3, .inl (cA, (320, .inl rf))), (q4, .inl (cA, (320, .inl nf))), (q5, .inl (cA, (6, .inl gf))), (o, .inl (cL, (1, .inr (.inl (vp_updL fo 0 (atL L1 (L1.length - 1)).toInt64)))))]) (fun _ => rfl) (fun _ => rfl) (fun u H locs hw_1 hP hD hS => ?_)
      have hP : va_P (dC, dI) vwCl [(x0, .inr (1, [.ref r0, .ref r1, .ref r2, .ref r3, .int (nI rn)])), (r0, .inr (0, [.ref a0, .int (nI L0.length)])), (a0, .inl (cA, (100, .inl f0))), (r1, .inr (0, [.ref a1, .int (nI L1.dropLast.length)])), (a1, .inl (cA, (100, .inl f1))), (r2, .inr (0, [.ref a2, .int n2])), (a2, .inl (cA, (100, .inl f2))), (r3, .inr (0, [.ref a3, .int n3])), (a3, .inl (cA, (100, .inl f3))), (y0, .inr (2, [.int tv, .int (nI rn), .ref q1, .ref q2, .int mn, .ref q3, .ref q4, .int ct, .int il, .ref q5])), (q1, .inl (cA, (2, .inl sf))), (q2, .inl (cA, (60, .inl lf))), (q3, .inl (cA, (320, .inl rf))), (q4, .inl (cA, (320, .inl nf))), (q5, .inl (cA, (6, .inl gf))), (o, .inl (cL, (1, .inr (.inl (vp_updL fo 0 (atL L1 (L1.length - 1)).toInt64)))))] H := hP
      have hD : va_D A [(x0, .inr (1, [.ref r0, .ref r1, .ref r2, .ref r3, .int (nI rn)])), (r0, .inr (0, [.ref a0, .int (nI L0.length)])), (a0, .inl (cA, (100, .inl f0))), (r1, .inr (0, [.ref a1, .int (nI L1.dropLast.length)])), (a1, .inl (cA, (100, .inl f1))), (r2, .inr (0, [.ref a2, .int n2])), (a2, .inl (cA, (100, .inl f2))), (r3, .inr (0, [.ref a3, .int n3])), (a3, .inl (cA, (100, .inl f3))), (y0, .inr (2, [.int tv, .int (nI rn), .ref q1, .ref q2, .int mn, .ref q3, .ref q4, .int ct, .int il, .ref q5])), (q1, .inl (cA, (2, .inl sf))), (q2, .inl (cA, (60, .inl lf))), (q3, .inl (cA, (320, .inl rf))), (q4, .inl (cA, (320, .inl nf))), (q5, .inl (cA, (6, .inl gf))), (o, .inl (cL, (1, .inr (.inl (vp_updL fo 0 (atL L1 (L1.length - 1)).toInt64)))))] := hD
      refine lv_istore (lv' := [(5, .int 0), (4, .int (nI i)), (3, .ref o), (2, .ref y0), (1, .ref x0), (0, .ref b)]) hx hb dL_law_267 hl (by decide) rfl (fun ls hl => ?_)
      refine lv_aload_n hx hb dL_law_269 rfl (lv_at hl 3 rfl) ?_
      refine lv_aload_n hx hb dL_law_270 rfl (lv_at hl 5 rfl) ?_
      refine lv_iload hx hb dL_law_271 (lv_at hl 1 rfl) ?_
      refine lv_iconst (v := 1) hx hb dL_law_273 (by decide) ?_
      refine lv_iadd hx hb dL_law_274 ?_
      rw [show (nI i) + 1 = nI (i + 1) from nI_add i 1]
      refine va_sld hx hb hX hbl hbA hS (vp_in_nI (by omega) (by omega)) dL_law_275 ?_
      rw [show (nI (i + 1)).toNatClampNeg = i + 1 from nI_clamp (by omega)]
      rw [h1]
      refine g_MVi (As := [.int (nI 1)]) (rest := []) ⟨hx, hb, hml, hown, hts⟩ (mt_X2_untwist l dC dI cA H.size y0 q1 q2 q3 q4 q5 rn tv sf lf mn rf nf ct il gf (V2 L0 L1) 1 hW (by omega) hk) (cwV 1 hts gL_law_X2_untwist rfl rfl rfl hdX2_untwist ⟨Nat.le_of_ble_eq_true rfl, Nat.le_of_ble_eq_true rfl⟩) hP hK hD hS hA [9, 10, 11, 12, 13, 14] (by decide) rfl (va_recv hK hP (ci := 2) (q0 := 9) rfl rfl) rfl hl.1 rfl (Nat.le_of_ble_eq_true rfl) dL_law_276 hc0 hs0 (fun u9 => [(x0, .inr (1, [.ref r0, .ref r1, .ref r2, .ref r3, .int (nI rn)])), (r0, .inr (0, [.ref a0, .int (nI L0.length)])), (a0, .inl (cA, (100, .inl f0))), (r1, .inr (0, [.ref a1, .int (nI L1.dropLast.length)])), (a1, .inl (cA, (100, .inl f1))), (r2, .inr (0, [.ref a2, .int n2])), (a2, .inl (cA, (100, .inl f2))), (r3, .inr (0, [.ref a3, .int n3])), (a3, .inl (cA, (100, .inl f3))), (y0, .inr (2, [.int 0, .int (nI rn), .ref q1, .ref q2, .int mn, .ref q3, .ref q4, .int ct, .int il, .ref q5])), (q1, .inl (cA, (2, .inl u9))), (q2, .inl (cA, (60, .inl lf))), (q3, .inl (cA, (320, .inl rf))), (q4, .inl (cA, (320, .inl nf))), (q5, .inl (cA, (6, .inl gf))), (o, .inl (cL, (1, .inr (.inl (vp_updL fo 0 (atL L1 (L1.length - 1)).toInt64)))))]) (fun _ => rfl) (fun _ => rfl) (fun u H locs hw_3 hP hD hS => ?_)
      obtain ⟨s1_2, rfl⟩ : ∃ z, z = u := ⟨_, rfl⟩
      have hw_3 : MW (upW (V2 L0 L1) 1 ((V2 L0 L1) 1).dropLast) s1_2 lf := hw_3
      have hP : va_P (dC, dI) vwCl [(x0, .inr (1, [.ref r0, .ref r1, .ref r2, .ref r3, .int (nI rn)])), (r0, .inr (0, [.ref a0, .int (nI L0.length)])), (a0, .inl (cA, (100, .inl f0))), (r1, .inr (0, [.ref a1, .int (nI L1.dropLast.length)])), (a1, .inl (cA, (100, .inl f1))), (r2, .inr (0, [.ref a2, .int n2])), (a2, .inl (cA, (100, .inl f2))), (r3, .inr (0, [.ref a3, .int n3])), (a3, .inl (cA, (100, .inl f3))), (y0, .inr (2, [.int 0, .int (nI rn), .ref q1, .ref q2, .int mn, .ref q3, .ref q4, .int ct, .int il, .ref q5])), (q1, .inl (cA, (2, .inl s1_2))), (q2, .inl (cA, (60, .inl lf))), (q3, .inl (cA, (320, .inl rf))), (q4, .inl (cA, (320, .inl nf))), (q5, .inl (cA, (6, .inl gf))), (o, .inl (cL, (1, .inr (.inl (vp_updL fo 0 (atL L1 (L1.length - 1)).toInt64)))))] H := hP
      have hD : va_D A [(x0, .inr (1, [.ref r0, .ref r1, .ref r2, .ref r3, .int (nI rn)])), (r0, .inr (0, [.ref a0, .int (nI L0.length)])), (a0, .inl (cA, (100, .inl f0))), (r1, .inr (0, [.ref a1, .int (nI L1.dropLast.length)])), (a1, .inl (cA, (100, .inl f1))), (r2, .inr (0, [.ref a2, .int n2])), (a2, .inl (cA, (100, .inl f2))), (r3, .inr (0, [.ref a3, .int n3])), (a3, .inl (cA, (100, .inl f3))), (y0, .inr (2, [.int 0, .int (nI rn), .ref q1, .ref q2, .int mn, .ref q3, .ref q4, .int ct, .int il, .ref q5])), (q1, .inl (cA, (2, .inl s1_2))), (q2, .inl (cA, (60, .inl lf))), (q3, .inl (cA, (320, .inl rf))), (q4, .inl (cA, (320, .inl nf))), (q5, .inl (cA, (6, .inl gf))), (o, .inl (cL, (1, .inr (.inl (vp_updL fo 0 (atL L1 (L1.length - 1)).toInt64)))))] := hD
      refine lv_istore (lv' := [(6, .int (atL ((V2 L0 L1) 1) (((V2 L0 L1) 1).length - 1))), (5, .int 0), (4, .int (nI i)), (3, .ref o), (2, .ref y0), (1, .ref x0), (0, .ref b)]) hx hb dL_law_279 hl (by decide) rfl (fun ls hl => ?_)
      refine lv_aload_n hx hb dL_law_281 rfl (lv_at hl 4 rfl) ?_
      refine g_RVi (As := []) (rest := []) ⟨hx, hb, hml, hown, hts⟩ (mt_X2_thrown l dC dI cA H.size y0 q1 q2 q3 q4 q5 rn 0 s1_2 lf mn rf nf ct il gf) (cwV 0 hts gL_law_X2_thrown rfl rfl rfl hdX2_thrown ⟨Nat.le_of_ble_eq_true rfl, Nat.le_of_ble_eq_true rfl⟩) hP hK hD [9, 10, 11, 12, 13, 14] (by decide) rfl (va_recv hK hP (ci := 2) (q0 := 9) rfl rfl) rfl hl.1 rfl (Nat.le_of_ble_eq_true rfl) dL_law_282 hc0 hs0 ?_
      refine lv_iload hx hb dL_law_285 (lv_at hl 1 rfl) ?_
      refine lv_icmp_eq (tgt := 292) hx hb dL_law_287 (by decide) (fun c287 => ?_) (fun c287 => ?_)
      · refine lv_iload hx hb dL_law_292 (lv_at hl 1 rfl) ?_
        refine lv_if_ne (tgt := 309) hx hb dL_law_294 (by decide) (fun c294 => ?_) (fun c294 => ?_)
        · exact absurd (by decide) c294
        · have c294 : 0 = 0 := g_neF 0 0 (by omega) (by omega) c294
          refine lv_aload_n hx hb dL_law_297 rfl (lv_at hl 3 rfl) ?_
          refine lv_iconst (v := 0) hx hb dL_law_298 (by decide) ?_
          refine va_lald hx hb hKl hP 15 1 rfl rfl (vp_in_nI (n := 0) (by omega) (by decide)) dL_law_299 ?_
          rw [show (0 : Int32).toNatClampNeg = 0 from by decide, pk_uLs]
          refine lv_iload hx hb dL_law_300 (lv_at hl 0 rfl) ?_
          refine lv_i2l (v := (atL ((V2 L0 L1) 1) (((V2 L0 L1) 1).length - 1)).toInt64) hx hb dL_law_302 rfl ?_
          refine W.lcmp hx hb dL_law_303 ?_
          rw [show lg_cmp ((atL L1 (L1.length - 1)).toInt64) ((atL ((V2 L0 L1) 1) (((V2 L0 L1) 1).length - 1)).toInt64) = 0 from (lg_cmp_eq _ _).mpr rfl]
          refine lv_if_eq (tgt := 309) hx hb dL_law_304 (by decide) (fun c304 => ?_) (fun c304 => ?_)
          · have c304 : 0 = 0 := g_eqT 0 0 (by omega) (by omega) c304
            refine lv_goto (tgt := 1241) hx hb dL_law_309 (by decide) ?_
            exact kk rn L0 L1.dropLast _ _ _ _ _ ⟨f0, f1, n2, f2, n3, f3, 0, s1_2, lf, mn, rf, nf, ct, il, gf, vp_updL fo 0 (atL L1 (L1.length - 1)).toInt64, hP, hD, hS, hR0, RI_dropLast hR1, hl0, by rw [List.length_dropLast]; omega, hrn, hr6, hk0, okL_drop hk1, MW_c1 hw_3⟩ (by omega) (by omega) (lv_sub hl [2, 3, 4, 5, 6] rfl)
          · exact absurd (by decide) c304
      · exact absurd (by decide) c287
    · refine lv_aload_n hx hb dL_law_256 rfl (lv_at hl 3 rfl) ?_
      refine lv_aload_n hx hb dL_law_257 rfl (lv_at hl 4 rfl) ?_
      refine lv_iload hx hb dL_law_258 (lv_at hl 0 rfl) ?_
      refine lv_iconst (v := 1) hx hb dL_law_260 (by decide) ?_
      refine lv_iadd hx hb dL_law_261 ?_
      rw [show (nI i) + 1 = nI (i + 1) from nI_add i 1]
      refine va_sld hx hb hX hbl hbA hS (vp_in_nI (by omega) (by omega)) dL_law_262 ?_
      rw [show (nI (i + 1)).toNatClampNeg = i + 1 from nI_clamp (by omega)]
      rw [h1]
      refine lv_aload_n hx hb dL_law_263 rfl (lv_at hl 1 rfl) ?_
      refine g_LS (As := [.ref x0, .int (nI 1), .ref o]) (rest := []) ⟨hx, hb, hml, hown, hts⟩ (mt_L_untwist_2_1 l htr dC dI cA cL H.size x0 r0 r1 r2 r3 rn a1 L1 f1 o fo hR1 (by omega)) (vx_cwSW 3 hts gL_law_L_untwist rfl rfl rfl hdL_untwist ⟨Nat.le_of_ble_eq_true rfl, Nat.le_of_ble_eq_true rfl⟩) hP hKl hD hS hA hZ [0, 3, 4, 15] (by decide) rfl rfl hl.1 rfl (Nat.le_of_ble_eq_true rfl) dL_law_264 hc1 hs1 (fun u9 => [(x0, .inr (1, [.ref r0, .ref r1, .ref r2, .ref r3, .int (nI rn)])), (r0, .inr (0, [.ref a0, .int (nI L0.length)])), (a0, .inl (cA, (100, .inl f0))), (r1, .inr (0, [.ref a1, .int (nI L1.length)])), (a1, .inl (cA, (100, .inl f1))), (r2, .inr (0, [.ref a2, .int n2])), (a2, .inl (cA, (100, .inl f2))), (r3, .inr (0, [.ref a3, .int n3])), (a3, .inl (cA, (100, .inl f3))), (y0, .inr (2, [.int tv, .int (nI rn), .ref q1, .ref q2, .int mn, .ref q3, .ref q4, .int ct, .int il, .ref q5])), (q1, .inl (cA, (2, .inl sf))), (q2, .inl (cA, (60, .inl lf))), (q3, .inl (cA, (320, .inl rf))), (q4, .inl (cA, (320, .inl nf))), (q5, .inl (cA, (6, .inl gf))), (o, .inl (cL, (1, .inr (.inl fo))))]) (fun _ => rfl) (fun _ => rfl) (fun u H locs hw_1 hP hD hS => ?_)
      have hP : va_P (dC, dI) vwCl [(x0, .inr (1, [.ref r0, .ref r1, .ref r2, .ref r3, .int (nI rn)])), (r0, .inr (0, [.ref a0, .int (nI L0.length)])), (a0, .inl (cA, (100, .inl f0))), (r1, .inr (0, [.ref a1, .int (nI L1.length)])), (a1, .inl (cA, (100, .inl f1))), (r2, .inr (0, [.ref a2, .int n2])), (a2, .inl (cA, (100, .inl f2))), (r3, .inr (0, [.ref a3, .int n3])), (a3, .inl (cA, (100, .inl f3))), (y0, .inr (2, [.int tv, .int (nI rn), .ref q1, .ref q2, .int mn, .ref q3, .ref q4, .int ct, .int il, .ref q5])), (q1, .inl (cA, (2, .inl sf))), (q2, .inl (cA, (60, .inl lf))), (q3, .inl (cA, (320, .inl rf))), (q4, .inl (cA, (320, .inl nf))), (q5, .inl (cA, (6, .inl gf))), (o, .inl (cL, (1, .inr (.inl fo))))] H := hP
      have hD : va_D A [(x0, .inr (1, [.ref r0, .ref r1, .ref r2, .ref r3, .int (nI rn)])), (r0, .inr (0, [.ref a0, .int (nI L0.length)])), (a0, .inl (cA, (100, .inl f0))), (r1, .inr (0, [.ref a1, .int (nI L1.length)])), (a1, .inl (cA, (100, .inl f1))), (r2, .inr (0, [.ref a2, .int n2])), (a2, .inl (cA, (100, .inl f2))), (r3, .inr (0, [.ref a3, .int n3])), (a3, .inl (cA, (100, .inl f3))), (y0, .inr (2, [.int tv, .int (nI rn), .ref q1, .ref q2, .int mn, .ref q3, .ref q4, .int ct, .int il, .ref q5])), (q1, .inl (cA, (2, .inl sf))), (q2, .inl (cA, (60, .inl lf))), (q3, .inl (cA, (320, .inl rf))), (q4, .inl (cA, (320, .inl nf))), (q5, .inl (cA, (6, .inl gf))), (o, .inl (cL, (1, .inr (.inl fo))))] := hD
      refine lv_istore (lv' := [(5, .int 2), (4, .int (nI i)), (3, .ref o), (2, .ref y0), (1, .ref x0), (0, .ref b)]) hx hb dL_law_267 hl (by decide) rfl (fun ls hl => ?_)
      refine lv_aload_n hx hb dL_law_269 rfl (lv_at hl 3 rfl) ?_
      refine lv_aload_n hx hb dL_law_270 rfl (lv_at hl 5 rfl) ?_
      refine lv_iload hx hb dL_law_271 (lv_at hl 1 rfl) ?_
      refine lv_iconst (v := 1) hx hb dL_law_273 (by decide) ?_
      refine lv_iadd hx hb dL_law_274 ?_
      rw [show (nI i) + 1 = nI (i + 1) from nI_add i 1]
      refine va_sld hx hb hX hbl hbA hS (vp_in_nI (by omega) (by omega)) dL_law_275 ?_
      rw [show (nI (i + 1)).toNatClampNeg = i + 1 from nI_clamp (by omega)]
      rw [h1]
      refine g_MVi (As := [.int (nI 1)]) (rest := []) ⟨hx, hb, hml, hown, hts⟩ (mt_X2_untwist_2 l dC dI cA H.size y0 q1 q2 q3 q4 q5 rn tv sf lf mn rf nf ct il gf (V2 L0 L1) 1 hW (by omega) (show L1.length = 0 from by omega)) (cwV 1 hts gL_law_X2_untwist rfl rfl rfl hdX2_untwist ⟨Nat.le_of_ble_eq_true rfl, Nat.le_of_ble_eq_true rfl⟩) hP hK hD hS hA [9, 10, 11, 12, 13, 14] (by decide) rfl (va_recv hK hP (ci := 2) (q0 := 9) rfl rfl) rfl hl.1 rfl (Nat.le_of_ble_eq_true rfl) dL_law_276 hc1 hs1 (fun u9 => [(x0, .inr (1, [.ref r0, .ref r1, .ref r2, .ref r3, .int (nI rn)])), (r0, .inr (0, [.ref a0, .int (nI L0.length)])), (a0, .inl (cA, (100, .inl f0))), (r1, .inr (0, [.ref a1, .int (nI L1.length)])), (a1, .inl (cA, (100, .inl f1))), (r2, .inr (0, [.ref a2, .int n2])), (a2, .inl (cA, (100, .inl f2))), (r3, .inr (0, [.ref a3, .int n3])), (a3, .inl (cA, (100, .inl f3))), (y0, .inr (2, [.int 2, .int (nI rn), .ref q1, .ref q2, .int mn, .ref q3, .ref q4, .int ct, .int il, .ref q5])), (q1, .inl (cA, (2, .inl sf))), (q2, .inl (cA, (60, .inl lf))), (q3, .inl (cA, (320, .inl rf))), (q4, .inl (cA, (320, .inl nf))), (q5, .inl (cA, (6, .inl gf))), (o, .inl (cL, (1, .inr (.inl fo))))]) (fun _ => rfl) (fun _ => rfl) (fun u H locs hw_2 hP hD hS => ?_)
      have hw_2 : True := hw_2
      have hP : va_P (dC, dI) vwCl [(x0, .inr (1, [.ref r0, .ref r1, .ref r2, .ref r3, .int (nI rn)])), (r0, .inr (0, [.ref a0, .int (nI L0.length)])), (a0, .inl (cA, (100, .inl f0))), (r1, .inr (0, [.ref a1, .int (nI L1.length)])), (a1, .inl (cA, (100, .inl f1))), (r2, .inr (0, [.ref a2, .int n2])), (a2, .inl (cA, (100, .inl f2))), (r3, .inr (0, [.ref a3, .int n3])), (a3, .inl (cA, (100, .inl f3))), (y0, .inr (2, [.int 2, .int (nI rn), .ref q1, .ref q2, .int mn, .ref q3, .ref q4, .int ct, .int il, .ref q5])), (q1, .inl (cA, (2, .inl sf))), (q2, .inl (cA, (60, .inl lf))), (q3, .inl (cA, (320, .inl rf))), (q4, .inl (cA, (320, .inl nf))), (q5, .inl (cA, (6, .inl gf))), (o, .inl (cL, (1, .inr (.inl fo))))] H := hP
      have hD : va_D A [(x0, .inr (1, [.ref r0, .ref r1, .ref r2, .ref r3, .int (nI rn)])), (r0, .inr (0, [.ref a0, .int (nI L0.length)])), (a0, .inl (cA, (100, .inl f0))), (r1, .inr (0, [.ref a1, .int (nI L1.length)])), (a1, .inl (cA, (100, .inl f1))), (r2, .inr (0, [.ref a2, .int n2])), (a2, .inl (cA, (100, .inl f2))), (r3, .inr (0, [.ref a3, .int n3])), (a3, .inl (cA, (100, .inl f3))), (y0, .inr (2, [.int 2, .int (nI rn), .ref q1, .ref q2, .int mn, .ref q3, .ref q4, .int ct, .int il, .ref q5])), (q1, .inl (cA, (2, .inl sf))), (q2, .inl (cA, (60, .inl lf))), (q3, .inl (cA, (320, .inl rf))), (q4, .inl (cA, (320, .inl nf))), (q5, .inl (cA, (6, .inl gf))), (o, .inl (cL, (1, .inr (.inl fo))))] := hD
      refine lv_istore (lv' := [(6, .int 0), (5, .int 2), (4, .int (nI i)), (3, .ref o), (2, .ref y0), (1, .ref x0), (0, .ref b)]) hx hb dL_law_279 hl (by decide) rfl (fun ls hl => ?_)
      refine lv_aload_n hx hb dL_law_281 rfl (lv_at hl 4 rfl) ?_
      refine g_RVi (As := []) (rest := []) ⟨hx, hb, hml, hown, hts⟩ (mt_X2_thrown l dC dI cA H.size y0 q1 q2 q3 q4 q5 rn 2 sf lf mn rf nf ct il gf) (cwV 0 hts gL_law_X2_thrown rfl rfl rfl hdX2_thrown ⟨Nat.le_of_ble_eq_true rfl, Nat.le_of_ble_eq_true rfl⟩) hP hK hD [9, 10, 11, 12, 13, 14] (by decide) rfl (va_recv hK hP (ci := 2) (q0 := 9) rfl rfl) rfl hl.1 rfl (Nat.le_of_ble_eq_true rfl) dL_law_282 hc1 hs1 ?_
      refine lv_iload hx hb dL_law_285 (lv_at hl 1 rfl) ?_
      refine lv_icmp_eq (tgt := 292) hx hb dL_law_287 (by decide) (fun c287 => ?_) (fun c287 => ?_)
      · refine lv_iload hx hb dL_law_292 (lv_at hl 1 rfl) ?_
        refine lv_if_ne (tgt := 309) hx hb dL_law_294 (by decide) (fun c294 => ?_) (fun c294 => ?_)
        · have c294 : ¬ 2 = 0 := g_neT 2 0 (by omega) (by omega) c294
          refine lv_goto (tgt := 1241) hx hb dL_law_309 (by decide) ?_
          exact kk rn L0 L1 _ _ _ _ _ ⟨f0, f1, n2, f2, n3, f3, 2, sf, lf, mn, rf, nf, ct, il, gf, fo, hP, hD, hS, hR0, hR1, hl0, hl1, hrn, hr6, hk0, hk1, hW⟩ (by omega) (by omega) (lv_sub hl [2, 3, 4, 5, 6] rfl)
        · exact absurd c294 (by decide)
      · exact absurd (by decide) c287

set_option maxHeartbeats 4000000 in
set_option maxRecDepth 100000 in
theorem lw_op_3 {p : Program} {l : Launch} {e : Env} {s : State} {m : MethodId} {below : List Frame} {meth : Method} {c : Code} {Q : State → Prop} {b L : Nat} {xs : Nat → Int32} {dC : Nat → ClassId} {dI : Nat → Nat → Nat} {cA cL : ClassId} {A : Nat → Prop} (E : lwE p l s m c b L xs dC dI cA cL A) {x0 r0 r1 r2 r3 a0 a1 a2 a3 y0 q1 q2 q3 q4 q5 o : Nat} {i : Nat} (hi : i + 4 ≤ L) {cells slots : Nat} (hC : cells + 1 ≤ 1053) (hS9 : slots + 6 ≤ 9402) {rn : Nat} {L0 L1 : List Int32} {H : Heap} {locs : List Loc} (hI : lwI dC dI cA cL A s.heap x0 r0 r1 r2 r3 a0 a1 a2 a3 y0 q1 q2 q3 q4 q5 o rn L0 L1 H locs) {ls : Array Slot} (hl : lv_has ls 9 [(4, .int (nI i)), (3, .ref o), (2, .ref y0), (1, .ref x0), (0, .ref b)])
    (kk : ∀ (rn : Nat) (L0 L1 : List Int32) (H : Heap) (locs : List Loc) (cells1 slots1 : Nat) (ls : Array Slot), lwI dC dI cA cL A s.heap x0 r0 r1 r2 r3 a0 a1 a2 a3 y0 q1 q2 q3 q4 q5 o rn L0 L1 H locs → cells1 ≤ cells + 1 → slots1 ≤ slots + 6 → lv_has ls 9 [(4, .int (nI i)), (3, .ref o), (2, .ref y0), (1, .ref x0), (0, .ref b)] → W p l e room_1 s m #[Value.ref b] below meth c H locs cells1 slots1 Q (F0 m 1241 ls [])) :
    W p l e room_1 s m #[Value.ref b] below meth c H locs cells slots Q (F0 m 312 ls []) := by
  obtain ⟨hx, hb, hml, hown, hts, hX, hbl, hbA, hA, htr, hKl, hZ, hL2⟩ := E
  obtain ⟨f0, f1, n2, f2, n3, f3, tv, sf, lf, mn, rf, nf, ct, il, gf, fo, hP, hD, hS, hR0, hR1, hl0, hl1, hrn, hr6, hk0, hk1, hW⟩ := hI
  have hK : va_K (dC, dI) vwCl [(cA, .int)] s := hKl.sub [0] rfl
  have hok := V2_ok hk0 hk1
  have hc0 : cells ≤ room_1.cells := (show cells ≤ 1053 from by omega)
  have hs0 : slots ≤ room_1.slots := (show slots ≤ 9402 from by omega)
  have hc1 : cells + 1 ≤ room_1.cells := hC
  have hs1 : slots + 6 ≤ room_1.slots := hS9
  rcases wd_ix (xs (i + 1)) with hbad | h1 | h1
  · refine lv_aload_n hx hb dL_law_312 rfl (lv_at hl 3 rfl) ?_
    refine lv_aload_n hx hb dL_law_313 rfl (lv_at hl 4 rfl) ?_
    refine lv_iload hx hb dL_law_314 (lv_at hl 0 rfl) ?_
    refine lv_iconst (v := 1) hx hb dL_law_316 (by decide) ?_
    refine lv_iadd hx hb dL_law_317 ?_
    rw [show (nI i) + 1 = nI (i + 1) from nI_add i 1]
    refine va_sld hx hb hX hbl hbA hS (vp_in_nI (by omega) (by omega)) dL_law_318 ?_
    rw [show (nI (i + 1)).toNatClampNeg = i + 1 from nI_clamp (by omega)]
    refine lv_aload_n hx hb dL_law_319 rfl (lv_at hl 1 rfl) ?_
    refine g_LS (As := [.ref x0, .int (xs (i + 1)), .ref o]) (rest := []) ⟨hx, hb, hml, hown, hts⟩ (mt_L_turn_1 l htr dC dI cA cL H.size x0 (xs (i + 1)) r0 r1 r2 r3 (nI rn) o fo hbad) (vx_cwSW 3 hts gL_law_L_turn rfl rfl rfl hdL_turn ⟨Nat.le_of_ble_eq_true rfl, Nat.le_of_ble_eq_true rfl⟩) hP hKl hD hS hA hZ [0, 15] (by decide) rfl rfl hl.1 rfl (Nat.le_of_ble_eq_true rfl) dL_law_320 hc1 hs1 (fun u9 => [(x0, .inr (1, [.ref r0, .ref r1, .ref r2, .ref r3, .int (nI rn)])), (r0, .inr (0, [.ref a0, .int (nI L0.length)])), (a0, .inl (cA, (100, .inl f0))), (r1, .inr (0, [.ref a1, .int (nI L1.length)])), (a1, .inl (cA, (100, .inl f1))), (r2, .inr (0, [.ref a2, .int n2])), (a2, .inl (cA, (100, .inl f2))), (r3, .inr (0, [.ref a3, .int n3])), (a3, .inl (cA, (100, .inl f3))), (y0, .inr (2, [.int tv, .int (nI rn), .ref q1, .ref q2, .int mn, .ref q3, .ref q4, .int ct, .int il, .ref q5])), (q1, .inl (cA, (2, .inl sf))), (q2, .inl (cA, (60, .inl lf))), (q3, .inl (cA, (320, .inl rf))), (q4, .inl (cA, (320, .inl nf))), (q5, .inl (cA, (6, .inl gf))), (o, .inl (cL, (1, .inr (.inl fo))))]) (fun _ => rfl) (fun _ => rfl) (fun u H locs hw_1 hP hD hS => ?_)
    have hP : va_P (dC, dI) vwCl [(x0, .inr (1, [.ref r0, .ref r1, .ref r2, .ref r3, .int (nI rn)])), (r0, .inr (0, [.ref a0, .int (nI L0.length)])), (a0, .inl (cA, (100, .inl f0))), (r1, .inr (0, [.ref a1, .int (nI L1.length)])), (a1, .inl (cA, (100, .inl f1))), (r2, .inr (0, [.ref a2, .int n2])), (a2, .inl (cA, (100, .inl f2))), (r3, .inr (0, [.ref a3, .int n3])), (a3, .inl (cA, (100, .inl f3))), (y0, .inr (2, [.int tv, .int (nI rn), .ref q1, .ref q2, .int mn, .ref q3, .ref q4, .int ct, .int il, .ref q5])), (q1, .inl (cA, (2, .inl sf))), (q2, .inl (cA, (60, .inl lf))), (q3, .inl (cA, (320, .inl rf))), (q4, .inl (cA, (320, .inl nf))), (q5, .inl (cA, (6, .inl gf))), (o, .inl (cL, (1, .inr (.inl fo))))] H := hP
    have hD : va_D A [(x0, .inr (1, [.ref r0, .ref r1, .ref r2, .ref r3, .int (nI rn)])), (r0, .inr (0, [.ref a0, .int (nI L0.length)])), (a0, .inl (cA, (100, .inl f0))), (r1, .inr (0, [.ref a1, .int (nI L1.length)])), (a1, .inl (cA, (100, .inl f1))), (r2, .inr (0, [.ref a2, .int n2])), (a2, .inl (cA, (100, .inl f2))), (r3, .inr (0, [.ref a3, .int n3])), (a3, .inl (cA, (100, .inl f3))), (y0, .inr (2, [.int tv, .int (nI rn), .ref q1, .ref q2, .int mn, .ref q3, .ref q4, .int ct, .int il, .ref q5])), (q1, .inl (cA, (2, .inl sf))), (q2, .inl (cA, (60, .inl lf))), (q3, .inl (cA, (320, .inl rf))), (q4, .inl (cA, (320, .inl nf))), (q5, .inl (cA, (6, .inl gf))), (o, .inl (cL, (1, .inr (.inl fo))))] := hD
    refine lv_istore (lv' := [(5, .int 1), (4, .int (nI i)), (3, .ref o), (2, .ref y0), (1, .ref x0), (0, .ref b)]) hx hb dL_law_323 hl (by decide) rfl (fun ls hl => ?_)
    refine lv_aload_n hx hb dL_law_325 rfl (lv_at hl 3 rfl) ?_
    refine lv_aload_n hx hb dL_law_326 rfl (lv_at hl 5 rfl) ?_
    refine lv_iload hx hb dL_law_327 (lv_at hl 1 rfl) ?_
    refine lv_iconst (v := 1) hx hb dL_law_329 (by decide) ?_
    refine lv_iadd hx hb dL_law_330 ?_
    rw [show (nI i) + 1 = nI (i + 1) from nI_add i 1]
    refine va_sld hx hb hX hbl hbA hS (vp_in_nI (by omega) (by omega)) dL_law_331 ?_
    rw [show (nI (i + 1)).toNatClampNeg = i + 1 from nI_clamp (by omega)]
    refine g_MVi (As := [.int (xs (i + 1))]) (rest := []) ⟨hx, hb, hml, hown, hts⟩ (mt_X2_turn_1 l dC dI cA H.size y0 q1 q2 q3 q4 q5 rn tv sf lf mn rf nf ct il gf (xs (i + 1)) hbad) (cwV 1 hts gL_law_X2_turn rfl rfl rfl hdX2_turn ⟨Nat.le_of_ble_eq_true rfl, Nat.le_of_ble_eq_true rfl⟩) hP hK hD hS hA [9, 10, 11, 12, 13, 14] (by decide) rfl (va_recv hK hP (ci := 2) (q0 := 9) rfl rfl) rfl hl.1 rfl (Nat.le_of_ble_eq_true rfl) dL_law_332 hc1 hs1 (fun u9 => [(x0, .inr (1, [.ref r0, .ref r1, .ref r2, .ref r3, .int (nI rn)])), (r0, .inr (0, [.ref a0, .int (nI L0.length)])), (a0, .inl (cA, (100, .inl f0))), (r1, .inr (0, [.ref a1, .int (nI L1.length)])), (a1, .inl (cA, (100, .inl f1))), (r2, .inr (0, [.ref a2, .int n2])), (a2, .inl (cA, (100, .inl f2))), (r3, .inr (0, [.ref a3, .int n3])), (a3, .inl (cA, (100, .inl f3))), (y0, .inr (2, [.int 1, .int (nI rn), .ref q1, .ref q2, .int mn, .ref q3, .ref q4, .int ct, .int il, .ref q5])), (q1, .inl (cA, (2, .inl sf))), (q2, .inl (cA, (60, .inl lf))), (q3, .inl (cA, (320, .inl rf))), (q4, .inl (cA, (320, .inl nf))), (q5, .inl (cA, (6, .inl gf))), (o, .inl (cL, (1, .inr (.inl fo))))]) (fun _ => rfl) (fun _ => rfl) (fun u H locs hw_2 hP hD hS => ?_)
    have hw_2 : True := hw_2
    have hP : va_P (dC, dI) vwCl [(x0, .inr (1, [.ref r0, .ref r1, .ref r2, .ref r3, .int (nI rn)])), (r0, .inr (0, [.ref a0, .int (nI L0.length)])), (a0, .inl (cA, (100, .inl f0))), (r1, .inr (0, [.ref a1, .int (nI L1.length)])), (a1, .inl (cA, (100, .inl f1))), (r2, .inr (0, [.ref a2, .int n2])), (a2, .inl (cA, (100, .inl f2))), (r3, .inr (0, [.ref a3, .int n3])), (a3, .inl (cA, (100, .inl f3))), (y0, .inr (2, [.int 1, .int (nI rn), .ref q1, .ref q2, .int mn, .ref q3, .ref q4, .int ct, .int il, .ref q5])), (q1, .inl (cA, (2, .inl sf))), (q2, .inl (cA, (60, .inl lf))), (q3, .inl (cA, (320, .inl rf))), (q4, .inl (cA, (320, .inl nf))), (q5, .inl (cA, (6, .inl gf))), (o, .inl (cL, (1, .inr (.inl fo))))] H := hP
    have hD : va_D A [(x0, .inr (1, [.ref r0, .ref r1, .ref r2, .ref r3, .int (nI rn)])), (r0, .inr (0, [.ref a0, .int (nI L0.length)])), (a0, .inl (cA, (100, .inl f0))), (r1, .inr (0, [.ref a1, .int (nI L1.length)])), (a1, .inl (cA, (100, .inl f1))), (r2, .inr (0, [.ref a2, .int n2])), (a2, .inl (cA, (100, .inl f2))), (r3, .inr (0, [.ref a3, .int n3])), (a3, .inl (cA, (100, .inl f3))), (y0, .inr (2, [.int 1, .int (nI rn), .ref q1, .ref q2, .int mn, .ref q3, .ref q4, .int ct, .int il, .ref q5])), (q1, .inl (cA, (2, .inl sf))), (q2, .inl (cA, (60, .inl lf))), (q3, .inl (cA, (320, .inl rf))), (q4, .inl (cA, (320, .inl nf))), (q5, .inl (cA, (6, .inl gf))), (o, .inl (cL, (1, .inr (.inl fo))))] := hD
    refine lv_istore (lv' := [(6, .int 0), (5, .int 1), (4, .int (nI i)), (3, .ref o), (2, .ref y0), (1, .ref x0), (0, .ref b)]) hx hb dL_law_335 hl (by decide) rfl (fun ls hl => ?_)
    refine lv_aload_n hx hb dL_law_337 rfl (lv_at hl 4 rfl) ?_
    refine g_RVi (As := []) (rest := []) ⟨hx, hb, hml, hown, hts⟩ (mt_X2_thrown l dC dI cA H.size y0 q1 q2 q3 q4 q5 rn 1 sf lf mn rf nf ct il gf) (cwV 0 hts gL_law_X2_thrown rfl rfl rfl hdX2_thrown ⟨Nat.le_of_ble_eq_true rfl, Nat.le_of_ble_eq_true rfl⟩) hP hK hD [9, 10, 11, 12, 13, 14] (by decide) rfl (va_recv hK hP (ci := 2) (q0 := 9) rfl rfl) rfl hl.1 rfl (Nat.le_of_ble_eq_true rfl) dL_law_338 hc1 hs1 ?_
    refine lv_iload hx hb dL_law_341 (lv_at hl 1 rfl) ?_
    refine lv_icmp_eq (tgt := 348) hx hb dL_law_343 (by decide) (fun c343 => ?_) (fun c343 => ?_)
    · refine lv_iload hx hb dL_law_348 (lv_at hl 1 rfl) ?_
      refine lv_if_ne (tgt := 365) hx hb dL_law_350 (by decide) (fun c350 => ?_) (fun c350 => ?_)
      · have c350 : ¬ 1 = 0 := g_neT 1 0 (by omega) (by omega) c350
        refine lv_goto (tgt := 1241) hx hb dL_law_365 (by decide) ?_
        exact kk rn L0 L1 _ _ _ _ _ ⟨f0, f1, n2, f2, n3, f3, 1, sf, lf, mn, rf, nf, ct, il, gf, fo, hP, hD, hS, hR0, hR1, hl0, hl1, hrn, hr6, hk0, hk1, hW⟩ (by omega) (by omega) (lv_sub hl [2, 3, 4, 5, 6] rfl)
      · exact absurd c350 (by decide)
    · exact absurd (by decide) c343
  · refine lv_aload_n hx hb dL_law_312 rfl (lv_at hl 3 rfl) ?_
    refine lv_aload_n hx hb dL_law_313 rfl (lv_at hl 4 rfl) ?_
    refine lv_iload hx hb dL_law_314 (lv_at hl 0 rfl) ?_
    refine lv_iconst (v := 1) hx hb dL_law_316 (by decide) ?_
    refine lv_iadd hx hb dL_law_317 ?_
    rw [show (nI i) + 1 = nI (i + 1) from nI_add i 1]
    refine va_sld hx hb hX hbl hbA hS (vp_in_nI (by omega) (by omega)) dL_law_318 ?_
    rw [show (nI (i + 1)).toNatClampNeg = i + 1 from nI_clamp (by omega)]
    rw [h1]
    refine lv_aload_n hx hb dL_law_319 rfl (lv_at hl 1 rfl) ?_
    refine g_LS (As := [.ref x0, .int (nI 0), .ref o]) (rest := []) ⟨hx, hb, hml, hown, hts⟩ (mt_L_turn0 l htr dC dI cA cL H.size x0 r0 r1 r2 r3 rn a0 L0 f0 a3 n3 f3 o fo hR0) (vx_cwSW 3 hts gL_law_L_turn rfl rfl rfl hdL_turn ⟨Nat.le_of_ble_eq_true rfl, Nat.le_of_ble_eq_true rfl⟩) hP hKl hD hS hA hZ [0, 1, 2, 7, 8, 15] (by decide) rfl rfl hl.1 rfl (Nat.le_of_ble_eq_true rfl) dL_law_320 hc0 hs0 (fun u9 => [(x0, .inr (1, [.ref r0, .ref r1, .ref r2, .ref r3, .int (nI rn)])), (r0, .inr (0, [.ref a0, .int (nI ((turnL L0).length))])), (a0, .inl (cA, (100, .inl u9.1))), (r1, .inr (0, [.ref a1, .int (nI L1.length)])), (a1, .inl (cA, (100, .inl f1))), (r2, .inr (0, [.ref a2, .int n2])), (a2, .inl (cA, (100, .inl f2))), (r3, .inr (0, [.ref a3, .int (nI ((turnL L0).length))])), (a3, .inl (cA, (100, .inl u9.2))), (y0, .inr (2, [.int tv, .int (nI rn), .ref q1, .ref q2, .int mn, .ref q3, .ref q4, .int ct, .int il, .ref q5])), (q1, .inl (cA, (2, .inl sf))), (q2, .inl (cA, (60, .inl lf))), (q3, .inl (cA, (320, .inl rf))), (q4, .inl (cA, (320, .inl nf))), (q5, .inl (cA, (6, .inl gf))), (o, .inl (cL, (1, .inr (.inl (vp_updL fo 0 (nI ((turnL L0).length)).toInt64)))))]) (fun _ => rfl) (fun _ => rfl) (fun u H locs hw_3 hP hD hS => ?_)
    obtain ⟨g1_1, g3_2⟩ := u
    have hw_3 : RI (turnL L0) g1_1 := hw_3
    have hP : va_P (dC, dI) vwCl [(x0, .inr (1, [.ref r0, .ref r1, .ref r2, .ref r3, .int (nI rn)])), (r0, .inr (0, [.ref a0, .int (nI ((turnL L0).length))])), (a0, .inl (cA, (100, .inl g1_1))), (r1, .inr (0, [.ref a1, .int (nI L1.length)])), (a1, .inl (cA, (100, .inl f1))), (r2, .inr (0, [.ref a2, .int n2])), (a2, .inl (cA, (100, .inl f2))), (r3, .inr (0, [.ref a3, .int (nI ((turnL L0).length))])), (a3, .inl (cA, (100, .inl g3_2))), (y0, .inr (2, [.int tv, .int (nI rn), .ref q1, .ref q2, .int mn, .ref q3, .ref q4, .int ct, .int il, .ref q5])), (q1, .inl (cA, (2, .inl sf))), (q2, .inl (cA, (60, .inl lf))), (q3, .inl (cA, (320, .inl rf))), (q4, .inl (cA, (320, .inl nf))), (q5, .inl (cA, (6, .inl gf))), (o, .inl (cL, (1, .inr (.inl (vp_updL fo 0 (nI ((turnL L0).length)).toInt64)))))] H := hP
    have hD : va_D A [(x0, .inr (1, [.ref r0, .ref r1, .ref r2, .ref r3, .int (nI rn)])), (r0, .inr (0, [.ref a0, .int (nI ((turnL L0).length))])), (a0, .inl (cA, (100, .inl g1_1))), (r1, .inr (0, [.ref a1, .int (nI L1.length)])), (a1, .inl (cA, (100, .inl f1))), (r2, .inr (0, [.ref a2, .int n2])), (a2, .inl (cA, (100, .inl f2))), (r3, .inr (0, [.ref a3, .int (nI ((turnL L0).length))])), (a3, .inl (cA, (100, .inl g3_2))), (y0, .inr (2, [.int tv, .int (nI rn), .ref q1, .ref q2, .int mn, .ref q3, .ref q4, .int ct, .int il, .ref q5])), (q1, .inl (cA, (2, .inl sf))), (q2, .inl (cA, (60, .inl lf))), (q3, .inl (cA, (320, .inl rf))), (q4, .inl (cA, (320, .inl nf))), (q5, .inl (cA, (6, .inl gf))), (o, .inl (cL, (1, .inr (.inl (vp_updL fo 0 (nI ((turnL L0).length)).toInt64)))))] := hD
    refine lv_istore (lv' := [(5, .int 0), (4, .int (nI i)), (3, .ref o), (2, .ref y0), (1, .ref x0), (0, .ref b)]) hx hb dL_law_323 hl (by decide) rfl (fun ls hl => ?_)
    refine lv_aload_n hx hb dL_law_325 rfl (lv_at hl 3 rfl) ?_
    refine lv_aload_n hx hb dL_law_326 rfl (lv_at hl 5 rfl) ?_
    refine lv_iload hx hb dL_law_327 (lv_at hl 1 rfl) ?_
    refine lv_iconst (v := 1) hx hb dL_law_329 (by decide) ?_
    refine lv_iadd hx hb dL_law_330 ?_
    rw [show (nI i) + 1 = nI (i + 1) from nI_add i 1]
    refine va_sld hx hb hX hbl hbA hS (vp_in_nI (by omega) (by omega)) dL_law_331 ?_
    rw [show (nI (i + 1)).toNatClampNeg = i + 1 from nI_clamp (by omega)]
    rw [h1]
    refine g_MVi (As := [.int (nI 0)]) (rest := []) ⟨hx, hb, hml, hown, hts⟩ (mt_X2_turn l dC dI cA H.size y0 q1 q2 q3 q4 q5 rn tv sf lf mn rf nf ct il gf (V2 L0 L1) 0 hW (by omega)) (cwV 1 hts gL_law_X2_turn rfl rfl rfl hdX2_turn ⟨Nat.le_of_ble_eq_true rfl, Nat.le_of_ble_eq_true rfl⟩) hP hK hD hS hA [9, 10, 11, 12, 13, 14] (by decide) rfl (va_recv hK hP (ci := 2) (q0 := 9) rfl rfl) rfl hl.1 rfl (Nat.le_of_ble_eq_true rfl) dL_law_332 hc0 hs0 (fun u9 => [(x0, .inr (1, [.ref r0, .ref r1, .ref r2, .ref r3, .int (nI rn)])), (r0, .inr (0, [.ref a0, .int (nI ((turnL L0).length))])), (a0, .inl (cA, (100, .inl g1_1))), (r1, .inr (0, [.ref a1, .int (nI L1.length)])), (a1, .inl (cA, (100, .inl f1))), (r2, .inr (0, [.ref a2, .int n2])), (a2, .inl (cA, (100, .inl f2))), (r3, .inr (0, [.ref a3, .int (nI ((turnL L0).length))])), (a3, .inl (cA, (100, .inl g3_2))), (y0, .inr (2, [.int 0, .int (nI rn), .ref q1, .ref q2, .int (nI (([] ++ turnL ((V2 L0 L1) 0)).length)), .ref q3, .ref q4, .int ct, .int il, .ref q5])), (q1, .inl (cA, (2, .inl u9.1))), (q2, .inl (cA, (60, .inl u9.2.1))), (q3, .inl (cA, (320, .inl u9.2.2))), (q4, .inl (cA, (320, .inl nf))), (q5, .inl (cA, (6, .inl gf))), (o, .inl (cL, (1, .inr (.inl (vp_updL fo 0 (nI ((turnL L0).length)).toInt64)))))]) (fun _ => rfl) (fun _ => rfl) (fun u H locs hw_7 hP hD hS => ?_)
    obtain ⟨s1_4, l1_5, r1_6⟩ := u
    have hw_7 : MW (upW (V2 L0 L1) 0 ([] ++ turnL ((V2 L0 L1) 0))) s1_4 l1_5 := hw_7
    have hP : va_P (dC, dI) vwCl [(x0, .inr (1, [.ref r0, .ref r1, .ref r2, .ref r3, .int (nI rn)])), (r0, .inr (0, [.ref a0, .int (nI ((turnL L0).length))])), (a0, .inl (cA, (100, .inl g1_1))), (r1, .inr (0, [.ref a1, .int (nI L1.length)])), (a1, .inl (cA, (100, .inl f1))), (r2, .inr (0, [.ref a2, .int n2])), (a2, .inl (cA, (100, .inl f2))), (r3, .inr (0, [.ref a3, .int (nI ((turnL L0).length))])), (a3, .inl (cA, (100, .inl g3_2))), (y0, .inr (2, [.int 0, .int (nI rn), .ref q1, .ref q2, .int (nI (([] ++ turnL ((V2 L0 L1) 0)).length)), .ref q3, .ref q4, .int ct, .int il, .ref q5])), (q1, .inl (cA, (2, .inl s1_4))), (q2, .inl (cA, (60, .inl l1_5))), (q3, .inl (cA, (320, .inl r1_6))), (q4, .inl (cA, (320, .inl nf))), (q5, .inl (cA, (6, .inl gf))), (o, .inl (cL, (1, .inr (.inl (vp_updL fo 0 (nI ((turnL L0).length)).toInt64)))))] H := hP
    have hD : va_D A [(x0, .inr (1, [.ref r0, .ref r1, .ref r2, .ref r3, .int (nI rn)])), (r0, .inr (0, [.ref a0, .int (nI ((turnL L0).length))])), (a0, .inl (cA, (100, .inl g1_1))), (r1, .inr (0, [.ref a1, .int (nI L1.length)])), (a1, .inl (cA, (100, .inl f1))), (r2, .inr (0, [.ref a2, .int n2])), (a2, .inl (cA, (100, .inl f2))), (r3, .inr (0, [.ref a3, .int (nI ((turnL L0).length))])), (a3, .inl (cA, (100, .inl g3_2))), (y0, .inr (2, [.int 0, .int (nI rn), .ref q1, .ref q2, .int (nI (([] ++ turnL ((V2 L0 L1) 0)).length)), .ref q3, .ref q4, .int ct, .int il, .ref q5])), (q1, .inl (cA, (2, .inl s1_4))), (q2, .inl (cA, (60, .inl l1_5))), (q3, .inl (cA, (320, .inl r1_6))), (q4, .inl (cA, (320, .inl nf))), (q5, .inl (cA, (6, .inl gf))), (o, .inl (cL, (1, .inr (.inl (vp_updL fo 0 (nI ((turnL L0).length)).toInt64)))))] := hD
    refine lv_istore (lv' := [(6, .int (nI (([] ++ turnL ((V2 L0 L1) 0)).length))), (5, .int 0), (4, .int (nI i)), (3, .ref o), (2, .ref y0), (1, .ref x0), (0, .ref b)]) hx hb dL_law_335 hl (by decide) rfl (fun ls hl => ?_)
    refine lv_aload_n hx hb dL_law_337 rfl (lv_at hl 4 rfl) ?_
    refine g_RVi (As := []) (rest := []) ⟨hx, hb, hml, hown, hts⟩ (mt_X2_thrown l dC dI cA H.size y0 q1 q2 q3 q4 q5 rn 0 s1_4 l1_5 (nI (([] ++ turnL ((V2 L0 L1) 0)).length)) r1_6 nf ct il gf) (cwV 0 hts gL_law_X2_thrown rfl rfl rfl hdX2_thrown ⟨Nat.le_of_ble_eq_true rfl, Nat.le_of_ble_eq_true rfl⟩) hP hK hD [9, 10, 11, 12, 13, 14] (by decide) rfl (va_recv hK hP (ci := 2) (q0 := 9) rfl rfl) rfl hl.1 rfl (Nat.le_of_ble_eq_true rfl) dL_law_338 hc0 hs0 ?_
    refine lv_iload hx hb dL_law_341 (lv_at hl 1 rfl) ?_
    refine lv_icmp_eq (tgt := 348) hx hb dL_law_343 (by decide) (fun c343 => ?_) (fun c343 => ?_)
    · refine lv_iload hx hb dL_law_348 (lv_at hl 1 rfl) ?_
      refine lv_if_ne (tgt := 365) hx hb dL_law_350 (by decide) (fun c350 => ?_) (fun c350 => ?_)
      · exact absurd (by decide) c350
      · have c350 : 0 = 0 := g_neF 0 0 (by omega) (by omega) c350
        refine lv_aload_n hx hb dL_law_353 rfl (lv_at hl 3 rfl) ?_
        refine lv_iconst (v := 0) hx hb dL_law_354 (by decide) ?_
        refine va_lald hx hb hKl hP 15 1 rfl rfl (vp_in_nI (n := 0) (by omega) (by decide)) dL_law_355 ?_
        rw [show (0 : Int32).toNatClampNeg = 0 from by decide, pk_uLs]
        refine lv_iload hx hb dL_law_356 (lv_at hl 0 rfl) ?_
        refine lv_i2l (v := (nI (([] ++ turnL ((V2 L0 L1) 0)).length)).toInt64) hx hb dL_law_358 rfl ?_
        refine W.lcmp hx hb dL_law_359 ?_
        rw [show lg_cmp ((nI ((turnL L0).length)).toInt64) ((nI ((([] : List Int32) ++ turnL ((V2 L0 L1) 0)).length)).toInt64) = 0 from (lg_cmp_eq _ _).mpr rfl]
        refine lv_if_eq (tgt := 365) hx hb dL_law_360 (by decide) (fun c360 => ?_) (fun c360 => ?_)
        · have c360 : 0 = 0 := g_eqT 0 0 (by omega) (by omega) c360
          refine lv_goto (tgt := 1241) hx hb dL_law_365 (by decide) ?_
          exact kk rn (turnL L0) L1 _ _ _ _ _ ⟨g1_1, f1, n2, f2, nI ((turnL L0).length), g3_2, 0, s1_4, l1_5, nI (([] ++ turnL ((V2 L0 L1) 0)).length), r1_6, nf, ct, il, gf, vp_updL fo 0 (nI ((turnL L0).length)).toInt64, hP, hD, hS, hw_3, hR1, by rw [turnL_len]; omega, hl1, hrn, hr6, okL_turn hrn hk0, hk1, MW_c0 hw_7⟩ (by omega) (by omega) (lv_sub hl [2, 3, 4, 5, 6] rfl)
        · exact absurd (by decide) c360
    · exact absurd (by decide) c343
  · refine lv_aload_n hx hb dL_law_312 rfl (lv_at hl 3 rfl) ?_
    refine lv_aload_n hx hb dL_law_313 rfl (lv_at hl 4 rfl) ?_
    refine lv_iload hx hb dL_law_314 (lv_at hl 0 rfl) ?_
    refine lv_iconst (v := 1) hx hb dL_law_316 (by decide) ?_
    refine lv_iadd hx hb dL_law_317 ?_
    rw [show (nI i) + 1 = nI (i + 1) from nI_add i 1]
    refine va_sld hx hb hX hbl hbA hS (vp_in_nI (by omega) (by omega)) dL_law_318 ?_
    rw [show (nI (i + 1)).toNatClampNeg = i + 1 from nI_clamp (by omega)]
    rw [h1]
    refine lv_aload_n hx hb dL_law_319 rfl (lv_at hl 1 rfl) ?_
    refine g_LS (As := [.ref x0, .int (nI 1), .ref o]) (rest := []) ⟨hx, hb, hml, hown, hts⟩ (mt_L_turn1 l htr dC dI cA cL H.size x0 r0 r1 r2 r3 rn a1 L1 f1 a3 n3 f3 o fo hR1) (vx_cwSW 3 hts gL_law_L_turn rfl rfl rfl hdL_turn ⟨Nat.le_of_ble_eq_true rfl, Nat.le_of_ble_eq_true rfl⟩) hP hKl hD hS hA hZ [0, 3, 4, 7, 8, 15] (by decide) rfl rfl hl.1 rfl (Nat.le_of_ble_eq_true rfl) dL_law_320 hc0 hs0 (fun u9 => [(x0, .inr (1, [.ref r0, .ref r1, .ref r2, .ref r3, .int (nI rn)])), (r0, .inr (0, [.ref a0, .int (nI L0.length)])), (a0, .inl (cA, (100, .inl f0))), (r1, .inr (0, [.ref a1, .int (nI ((turnL L1).length))])), (a1, .inl (cA, (100, .inl u9.1))), (r2, .inr (0, [.ref a2, .int n2])), (a2, .inl (cA, (100, .inl f2))), (r3, .inr (0, [.ref a3, .int (nI ((turnL L1).length))])), (a3, .inl (cA, (100, .inl u9.2))), (y0, .inr (2, [.int tv, .int (nI rn), .ref q1, .ref q2, .int mn, .ref q3, .ref q4, .int ct, .int il, .ref q5])), (q1, .inl (cA, (2, .inl sf))), (q2, .inl (cA, (60, .inl lf))), (q3, .inl (cA, (320, .inl rf))), (q4, .inl (cA, (320, .inl nf))), (q5, .inl (cA, (6, .inl gf))), (o, .inl (cL, (1, .inr (.inl (vp_updL fo 0 (nI ((turnL L1).length)).toInt64)))))]) (fun _ => rfl) (fun _ => rfl) (fun u H locs hw_3 hP hD hS => ?_)
    obtain ⟨g1_1, g3_2⟩ := u
    have hw_3 : RI (turnL L1) g1_1 := hw_3
    have hP : va_P (dC, dI) vwCl [(x0, .inr (1, [.ref r0, .ref r1, .ref r2, .ref r3, .int (nI rn)])), (r0, .inr (0, [.ref a0, .int (nI L0.length)])), (a0, .inl (cA, (100, .inl f0))), (r1, .inr (0, [.ref a1, .int (nI ((turnL L1).length))])), (a1, .inl (cA, (100, .inl g1_1))), (r2, .inr (0, [.ref a2, .int n2])), (a2, .inl (cA, (100, .inl f2))), (r3, .inr (0, [.ref a3, .int (nI ((turnL L1).length))])), (a3, .inl (cA, (100, .inl g3_2))), (y0, .inr (2, [.int tv, .int (nI rn), .ref q1, .ref q2, .int mn, .ref q3, .ref q4, .int ct, .int il, .ref q5])), (q1, .inl (cA, (2, .inl sf))), (q2, .inl (cA, (60, .inl lf))), (q3, .inl (cA, (320, .inl rf))), (q4, .inl (cA, (320, .inl nf))), (q5, .inl (cA, (6, .inl gf))), (o, .inl (cL, (1, .inr (.inl (vp_updL fo 0 (nI ((turnL L1).length)).toInt64)))))] H := hP
    have hD : va_D A [(x0, .inr (1, [.ref r0, .ref r1, .ref r2, .ref r3, .int (nI rn)])), (r0, .inr (0, [.ref a0, .int (nI L0.length)])), (a0, .inl (cA, (100, .inl f0))), (r1, .inr (0, [.ref a1, .int (nI ((turnL L1).length))])), (a1, .inl (cA, (100, .inl g1_1))), (r2, .inr (0, [.ref a2, .int n2])), (a2, .inl (cA, (100, .inl f2))), (r3, .inr (0, [.ref a3, .int (nI ((turnL L1).length))])), (a3, .inl (cA, (100, .inl g3_2))), (y0, .inr (2, [.int tv, .int (nI rn), .ref q1, .ref q2, .int mn, .ref q3, .ref q4, .int ct, .int il, .ref q5])), (q1, .inl (cA, (2, .inl sf))), (q2, .inl (cA, (60, .inl lf))), (q3, .inl (cA, (320, .inl rf))), (q4, .inl (cA, (320, .inl nf))), (q5, .inl (cA, (6, .inl gf))), (o, .inl (cL, (1, .inr (.inl (vp_updL fo 0 (nI ((turnL L1).length)).toInt64)))))] := hD
    refine lv_istore (lv' := [(5, .int 0), (4, .int (nI i)), (3, .ref o), (2, .ref y0), (1, .ref x0), (0, .ref b)]) hx hb dL_law_323 hl (by decide) rfl (fun ls hl => ?_)
    refine lv_aload_n hx hb dL_law_325 rfl (lv_at hl 3 rfl) ?_
    refine lv_aload_n hx hb dL_law_326 rfl (lv_at hl 5 rfl) ?_
    refine lv_iload hx hb dL_law_327 (lv_at hl 1 rfl) ?_
    refine lv_iconst (v := 1) hx hb dL_law_329 (by decide) ?_
    refine lv_iadd hx hb dL_law_330 ?_
    rw [show (nI i) + 1 = nI (i + 1) from nI_add i 1]
    refine va_sld hx hb hX hbl hbA hS (vp_in_nI (by omega) (by omega)) dL_law_331 ?_
    rw [show (nI (i + 1)).toNatClampNeg = i + 1 from nI_clamp (by omega)]
    rw [h1]
    refine g_MVi (As := [.int (nI 1)]) (rest := []) ⟨hx, hb, hml, hown, hts⟩ (mt_X2_turn l dC dI cA H.size y0 q1 q2 q3 q4 q5 rn tv sf lf mn rf nf ct il gf (V2 L0 L1) 1 hW (by omega)) (cwV 1 hts gL_law_X2_turn rfl rfl rfl hdX2_turn ⟨Nat.le_of_ble_eq_true rfl, Nat.le_of_ble_eq_true rfl⟩) hP hK hD hS hA [9, 10, 11, 12, 13, 14] (by decide) rfl (va_recv hK hP (ci := 2) (q0 := 9) rfl rfl) rfl hl.1 rfl (Nat.le_of_ble_eq_true rfl) dL_law_332 hc0 hs0 (fun u9 => [(x0, .inr (1, [.ref r0, .ref r1, .ref r2, .ref r3, .int (nI rn)])), (r0, .inr (0, [.ref a0, .int (nI L0.length)])), (a0, .inl (cA, (100, .inl f0))), (r1, .inr (0, [.ref a1, .int (nI ((turnL L1).length))])), (a1, .inl (cA, (100, .inl g1_1))), (r2, .inr (0, [.ref a2, .int n2])), (a2, .inl (cA, (100, .inl f2))), (r3, .inr (0, [.ref a3, .int (nI ((turnL L1).length))])), (a3, .inl (cA, (100, .inl g3_2))), (y0, .inr (2, [.int 0, .int (nI rn), .ref q1, .ref q2, .int (nI (([] ++ turnL ((V2 L0 L1) 1)).length)), .ref q3, .ref q4, .int ct, .int il, .ref q5])), (q1, .inl (cA, (2, .inl u9.1))), (q2, .inl (cA, (60, .inl u9.2.1))), (q3, .inl (cA, (320, .inl u9.2.2))), (q4, .inl (cA, (320, .inl nf))), (q5, .inl (cA, (6, .inl gf))), (o, .inl (cL, (1, .inr (.inl (vp_updL fo 0 (nI ((turnL L1).length)).toInt64)))))]) (fun _ => rfl) (fun _ => rfl) (fun u H locs hw_7 hP hD hS => ?_)
    obtain ⟨s1_4, l1_5, r1_6⟩ := u
    have hw_7 : MW (upW (V2 L0 L1) 1 ([] ++ turnL ((V2 L0 L1) 1))) s1_4 l1_5 := hw_7
    have hP : va_P (dC, dI) vwCl [(x0, .inr (1, [.ref r0, .ref r1, .ref r2, .ref r3, .int (nI rn)])), (r0, .inr (0, [.ref a0, .int (nI L0.length)])), (a0, .inl (cA, (100, .inl f0))), (r1, .inr (0, [.ref a1, .int (nI ((turnL L1).length))])), (a1, .inl (cA, (100, .inl g1_1))), (r2, .inr (0, [.ref a2, .int n2])), (a2, .inl (cA, (100, .inl f2))), (r3, .inr (0, [.ref a3, .int (nI ((turnL L1).length))])), (a3, .inl (cA, (100, .inl g3_2))), (y0, .inr (2, [.int 0, .int (nI rn), .ref q1, .ref q2, .int (nI (([] ++ turnL ((V2 L0 L1) 1)).length)), .ref q3, .ref q4, .int ct, .int il, .ref q5])), (q1, .inl (cA, (2, .inl s1_4))), (q2, .inl (cA, (60, .inl l1_5))), (q3, .inl (cA, (320, .inl r1_6))), (q4, .inl (cA, (320, .inl nf))), (q5, .inl (cA, (6, .inl gf))), (o, .inl (cL, (1, .inr (.inl (vp_updL fo 0 (nI ((turnL L1).length)).toInt64)))))] H := hP
    have hD : va_D A [(x0, .inr (1, [.ref r0, .ref r1, .ref r2, .ref r3, .int (nI rn)])), (r0, .inr (0, [.ref a0, .int (nI L0.length)])), (a0, .inl (cA, (100, .inl f0))), (r1, .inr (0, [.ref a1, .int (nI ((turnL L1).length))])), (a1, .inl (cA, (100, .inl g1_1))), (r2, .inr (0, [.ref a2, .int n2])), (a2, .inl (cA, (100, .inl f2))), (r3, .inr (0, [.ref a3, .int (nI ((turnL L1).length))])), (a3, .inl (cA, (100, .inl g3_2))), (y0, .inr (2, [.int 0, .int (nI rn), .ref q1, .ref q2, .int (nI (([] ++ turnL ((V2 L0 L1) 1)).length)), .ref q3, .ref q4, .int ct, .int il, .ref q5])), (q1, .inl (cA, (2, .inl s1_4))), (q2, .inl (cA, (60, .inl l1_5))), (q3, .inl (cA, (320, .inl r1_6))), (q4, .inl (cA, (320, .inl nf))), (q5, .inl (cA, (6, .inl gf))), (o, .inl (cL, (1, .inr (.inl (vp_updL fo 0 (nI ((turnL L1).length)).toInt64)))))] := hD
    refine lv_istore (lv' := [(6, .int (nI (([] ++ turnL ((V2 L0 L1) 1)).length))), (5, .int 0), (4, .int (nI i)), (3, .ref o), (2, .ref y0), (1, .ref x0), (0, .ref b)]) hx hb dL_law_335 hl (by decide) rfl (fun ls hl => ?_)
    refine lv_aload_n hx hb dL_law_337 rfl (lv_at hl 4 rfl) ?_
    refine g_RVi (As := []) (rest := []) ⟨hx, hb, hml, hown, hts⟩ (mt_X2_thrown l dC dI cA H.size y0 q1 q2 q3 q4 q5 rn 0 s1_4 l1_5 (nI (([] ++ turnL ((V2 L0 L1) 1)).length)) r1_6 nf ct il gf) (cwV 0 hts gL_law_X2_thrown rfl rfl rfl hdX2_thrown ⟨Nat.le_of_ble_eq_true rfl, Nat.le_of_ble_eq_true rfl⟩) hP hK hD [9, 10, 11, 12, 13, 14] (by decide) rfl (va_recv hK hP (ci := 2) (q0 := 9) rfl rfl) rfl hl.1 rfl (Nat.le_of_ble_eq_true rfl) dL_law_338 hc0 hs0 ?_
    refine lv_iload hx hb dL_law_341 (lv_at hl 1 rfl) ?_
    refine lv_icmp_eq (tgt := 348) hx hb dL_law_343 (by decide) (fun c343 => ?_) (fun c343 => ?_)
    · refine lv_iload hx hb dL_law_348 (lv_at hl 1 rfl) ?_
      refine lv_if_ne (tgt := 365) hx hb dL_law_350 (by decide) (fun c350 => ?_) (fun c350 => ?_)
      · exact absurd (by decide) c350
      · have c350 : 0 = 0 := g_neF 0 0 (by omega) (by omega) c350
        refine lv_aload_n hx hb dL_law_353 rfl (lv_at hl 3 rfl) ?_
        refine lv_iconst (v := 0) hx hb dL_law_354 (by decide) ?_
        refine va_lald hx hb hKl hP 15 1 rfl rfl (vp_in_nI (n := 0) (by omega) (by decide)) dL_law_355 ?_
        rw [show (0 : Int32).toNatClampNeg = 0 from by decide, pk_uLs]
        refine lv_iload hx hb dL_law_356 (lv_at hl 0 rfl) ?_
        refine lv_i2l (v := (nI (([] ++ turnL ((V2 L0 L1) 1)).length)).toInt64) hx hb dL_law_358 rfl ?_
        refine W.lcmp hx hb dL_law_359 ?_
        rw [show lg_cmp ((nI ((turnL L1).length)).toInt64) ((nI ((([] : List Int32) ++ turnL ((V2 L0 L1) 1)).length)).toInt64) = 0 from (lg_cmp_eq _ _).mpr rfl]
        refine lv_if_eq (tgt := 365) hx hb dL_law_360 (by decide) (fun c360 => ?_) (fun c360 => ?_)
        · have c360 : 0 = 0 := g_eqT 0 0 (by omega) (by omega) c360
          refine lv_goto (tgt := 1241) hx hb dL_law_365 (by decide) ?_
          exact kk rn L0 (turnL L1) _ _ _ _ _ ⟨f0, g1_1, n2, f2, nI ((turnL L1).length), g3_2, 0, s1_4, l1_5, nI (([] ++ turnL ((V2 L0 L1) 1)).length), r1_6, nf, ct, il, gf, vp_updL fo 0 (nI ((turnL L1).length)).toInt64, hP, hD, hS, hR0, hw_3, hl0, by rw [turnL_len]; omega, hrn, hr6, hk0, okL_turn hrn hk1, MW_c1 hw_7⟩ (by omega) (by omega) (lv_sub hl [2, 3, 4, 5, 6] rfl)
        · exact absurd (by decide) c360
    · exact absurd (by decide) c343

set_option maxHeartbeats 4000000 in
set_option maxRecDepth 100000 in
theorem lw_op_4 {p : Program} {l : Launch} {e : Env} {s : State} {m : MethodId} {below : List Frame} {meth : Method} {c : Code} {Q : State → Prop} {b L : Nat} {xs : Nat → Int32} {dC : Nat → ClassId} {dI : Nat → Nat → Nat} {cA cL : ClassId} {A : Nat → Prop} (E : lwE p l s m c b L xs dC dI cA cL A) {x0 r0 r1 r2 r3 a0 a1 a2 a3 y0 q1 q2 q3 q4 q5 o : Nat} {i : Nat} (hi : i + 4 ≤ L) {cells slots : Nat} (hC : cells + 1 ≤ 1053) (hS9 : slots + 6 ≤ 9402) {rn : Nat} {L0 L1 : List Int32} {H : Heap} {locs : List Loc} (hI : lwI dC dI cA cL A s.heap x0 r0 r1 r2 r3 a0 a1 a2 a3 y0 q1 q2 q3 q4 q5 o rn L0 L1 H locs) {ls : Array Slot} (hl : lv_has ls 9 [(4, .int (nI i)), (3, .ref o), (2, .ref y0), (1, .ref x0), (0, .ref b)])
    (kk : ∀ (rn : Nat) (L0 L1 : List Int32) (H : Heap) (locs : List Loc) (cells1 slots1 : Nat) (ls : Array Slot), lwI dC dI cA cL A s.heap x0 r0 r1 r2 r3 a0 a1 a2 a3 y0 q1 q2 q3 q4 q5 o rn L0 L1 H locs → cells1 ≤ cells + 1 → slots1 ≤ slots + 6 → lv_has ls 9 [(4, .int (nI i)), (3, .ref o), (2, .ref y0), (1, .ref x0), (0, .ref b)] → W p l e room_1 s m #[Value.ref b] below meth c H locs cells1 slots1 Q (F0 m 1241 ls [])) :
    W p l e room_1 s m #[Value.ref b] below meth c H locs cells slots Q (F0 m 368 ls []) := by
  obtain ⟨hx, hb, hml, hown, hts, hX, hbl, hbA, hA, htr, hKl, hZ, hL2⟩ := E
  obtain ⟨f0, f1, n2, f2, n3, f3, tv, sf, lf, mn, rf, nf, ct, il, gf, fo, hP, hD, hS, hR0, hR1, hl0, hl1, hrn, hr6, hk0, hk1, hW⟩ := hI
  have hK : va_K (dC, dI) vwCl [(cA, .int)] s := hKl.sub [0] rfl
  have hok := V2_ok hk0 hk1
  have hc0 : cells ≤ room_1.cells := (show cells ≤ 1053 from by omega)
  have hs0 : slots ≤ room_1.slots := (show slots ≤ 9402 from by omega)
  have hc1 : cells + 1 ≤ room_1.cells := hC
  have hs1 : slots + 6 ≤ room_1.slots := hS9
  rcases wd_ix (xs (i + 1)) with hbad | h1 | h1
  · refine lv_aload_n hx hb dL_law_368 rfl (lv_at hl 3 rfl) ?_
    refine lv_aload_n hx hb dL_law_369 rfl (lv_at hl 4 rfl) ?_
    refine lv_iload hx hb dL_law_370 (lv_at hl 0 rfl) ?_
    refine lv_iconst (v := 1) hx hb dL_law_372 (by decide) ?_
    refine lv_iadd hx hb dL_law_373 ?_
    rw [show (nI i) + 1 = nI (i + 1) from nI_add i 1]
    refine va_sld hx hb hX hbl hbA hS (vp_in_nI (by omega) (by omega)) dL_law_374 ?_
    rw [show (nI (i + 1)).toNatClampNeg = i + 1 from nI_clamp (by omega)]
    refine lv_aload_n hx hb dL_law_375 rfl (lv_at hl 1 rfl) ?_
    refine g_LS (As := [.ref x0, .int (xs (i + 1)), .ref o]) (rest := []) ⟨hx, hb, hml, hown, hts⟩ (mt_L_join_1 l htr dC dI cA cL H.size x0 (xs (i + 1)) r0 r1 r2 r3 (nI rn) o fo hbad) (vx_cwSW 3 hts gL_law_L_join rfl rfl rfl hdL_join ⟨Nat.le_of_ble_eq_true rfl, Nat.le_of_ble_eq_true rfl⟩) hP hKl hD hS hA hZ [0, 15] (by decide) rfl rfl hl.1 rfl (Nat.le_of_ble_eq_true rfl) dL_law_376 hc1 hs1 (fun u9 => [(x0, .inr (1, [.ref r0, .ref r1, .ref r2, .ref r3, .int (nI rn)])), (r0, .inr (0, [.ref a0, .int (nI L0.length)])), (a0, .inl (cA, (100, .inl f0))), (r1, .inr (0, [.ref a1, .int (nI L1.length)])), (a1, .inl (cA, (100, .inl f1))), (r2, .inr (0, [.ref a2, .int n2])), (a2, .inl (cA, (100, .inl f2))), (r3, .inr (0, [.ref a3, .int n3])), (a3, .inl (cA, (100, .inl f3))), (y0, .inr (2, [.int tv, .int (nI rn), .ref q1, .ref q2, .int mn, .ref q3, .ref q4, .int ct, .int il, .ref q5])), (q1, .inl (cA, (2, .inl sf))), (q2, .inl (cA, (60, .inl lf))), (q3, .inl (cA, (320, .inl rf))), (q4, .inl (cA, (320, .inl nf))), (q5, .inl (cA, (6, .inl gf))), (o, .inl (cL, (1, .inr (.inl fo))))]) (fun _ => rfl) (fun _ => rfl) (fun u H locs hw_1 hP hD hS => ?_)
    have hP : va_P (dC, dI) vwCl [(x0, .inr (1, [.ref r0, .ref r1, .ref r2, .ref r3, .int (nI rn)])), (r0, .inr (0, [.ref a0, .int (nI L0.length)])), (a0, .inl (cA, (100, .inl f0))), (r1, .inr (0, [.ref a1, .int (nI L1.length)])), (a1, .inl (cA, (100, .inl f1))), (r2, .inr (0, [.ref a2, .int n2])), (a2, .inl (cA, (100, .inl f2))), (r3, .inr (0, [.ref a3, .int n3])), (a3, .inl (cA, (100, .inl f3))), (y0, .inr (2, [.int tv, .int (nI rn), .ref q1, .ref q2, .int mn, .ref q3, .ref q4, .int ct, .int il, .ref q5])), (q1, .inl (cA, (2, .inl sf))), (q2, .inl (cA, (60, .inl lf))), (q3, .inl (cA, (320, .inl rf))), (q4, .inl (cA, (320, .inl nf))), (q5, .inl (cA, (6, .inl gf))), (o, .inl (cL, (1, .inr (.inl fo))))] H := hP
    have hD : va_D A [(x0, .inr (1, [.ref r0, .ref r1, .ref r2, .ref r3, .int (nI rn)])), (r0, .inr (0, [.ref a0, .int (nI L0.length)])), (a0, .inl (cA, (100, .inl f0))), (r1, .inr (0, [.ref a1, .int (nI L1.length)])), (a1, .inl (cA, (100, .inl f1))), (r2, .inr (0, [.ref a2, .int n2])), (a2, .inl (cA, (100, .inl f2))), (r3, .inr (0, [.ref a3, .int n3])), (a3, .inl (cA, (100, .inl f3))), (y0, .inr (2, [.int tv, .int (nI rn), .ref q1, .ref q2, .int mn, .ref q3, .ref q4, .int ct, .int il, .ref q5])), (q1, .inl (cA, (2, .inl sf))), (q2, .inl (cA, (60, .inl lf))), (q3, .inl (cA, (320, .inl rf))), (q4, .inl (cA, (320, .inl nf))), (q5, .inl (cA, (6, .inl gf))), (o, .inl (cL, (1, .inr (.inl fo))))] := hD
    refine lv_istore (lv' := [(5, .int 1), (4, .int (nI i)), (3, .ref o), (2, .ref y0), (1, .ref x0), (0, .ref b)]) hx hb dL_law_379 hl (by decide) rfl (fun ls hl => ?_)
    refine lv_aload_n hx hb dL_law_381 rfl (lv_at hl 3 rfl) ?_
    refine lv_aload_n hx hb dL_law_382 rfl (lv_at hl 5 rfl) ?_
    refine lv_iload hx hb dL_law_383 (lv_at hl 1 rfl) ?_
    refine lv_iconst (v := 1) hx hb dL_law_385 (by decide) ?_
    refine lv_iadd hx hb dL_law_386 ?_
    rw [show (nI i) + 1 = nI (i + 1) from nI_add i 1]
    refine va_sld hx hb hX hbl hbA hS (vp_in_nI (by omega) (by omega)) dL_law_387 ?_
    rw [show (nI (i + 1)).toNatClampNeg = i + 1 from nI_clamp (by omega)]
    refine g_MVi (As := [.int (xs (i + 1))]) (rest := []) ⟨hx, hb, hml, hown, hts⟩ (mt_X2_join_1 l dC dI cA H.size y0 q1 q2 q3 q4 q5 rn tv sf lf mn rf nf ct il gf (xs (i + 1)) hbad) (cwV 1 hts gL_law_X2_join rfl rfl rfl hdX2_join ⟨Nat.le_of_ble_eq_true rfl, Nat.le_of_ble_eq_true rfl⟩) hP hK hD hS hA [9, 10, 11, 12, 13, 14] (by decide) rfl (va_recv hK hP (ci := 2) (q0 := 9) rfl rfl) rfl hl.1 rfl (Nat.le_of_ble_eq_true rfl) dL_law_388 hc1 hs1 (fun u9 => [(x0, .inr (1, [.ref r0, .ref r1, .ref r2, .ref r3, .int (nI rn)])), (r0, .inr (0, [.ref a0, .int (nI L0.length)])), (a0, .inl (cA, (100, .inl f0))), (r1, .inr (0, [.ref a1, .int (nI L1.length)])), (a1, .inl (cA, (100, .inl f1))), (r2, .inr (0, [.ref a2, .int n2])), (a2, .inl (cA, (100, .inl f2))), (r3, .inr (0, [.ref a3, .int n3])), (a3, .inl (cA, (100, .inl f3))), (y0, .inr (2, [.int 1, .int (nI rn), .ref q1, .ref q2, .int mn, .ref q3, .ref q4, .int ct, .int il, .ref q5])), (q1, .inl (cA, (2, .inl sf))), (q2, .inl (cA, (60, .inl lf))), (q3, .inl (cA, (320, .inl rf))), (q4, .inl (cA, (320, .inl nf))), (q5, .inl (cA, (6, .inl gf))), (o, .inl (cL, (1, .inr (.inl fo))))]) (fun _ => rfl) (fun _ => rfl) (fun u H locs hw_2 hP hD hS => ?_)
    have hw_2 : True := hw_2
    have hP : va_P (dC, dI) vwCl [(x0, .inr (1, [.ref r0, .ref r1, .ref r2, .ref r3, .int (nI rn)])), (r0, .inr (0, [.ref a0, .int (nI L0.length)])), (a0, .inl (cA, (100, .inl f0))), (r1, .inr (0, [.ref a1, .int (nI L1.length)])), (a1, .inl (cA, (100, .inl f1))), (r2, .inr (0, [.ref a2, .int n2])), (a2, .inl (cA, (100, .inl f2))), (r3, .inr (0, [.ref a3, .int n3])), (a3, .inl (cA, (100, .inl f3))), (y0, .inr (2, [.int 1, .int (nI rn), .ref q1, .ref q2, .int mn, .ref q3, .ref q4, .int ct, .int il, .ref q5])), (q1, .inl (cA, (2, .inl sf))), (q2, .inl (cA, (60, .inl lf))), (q3, .inl (cA, (320, .inl rf))), (q4, .inl (cA, (320, .inl nf))), (q5, .inl (cA, (6, .inl gf))), (o, .inl (cL, (1, .inr (.inl fo))))] H := hP
    have hD : va_D A [(x0, .inr (1, [.ref r0, .ref r1, .ref r2, .ref r3, .int (nI rn)])), (r0, .inr (0, [.ref a0, .int (nI L0.length)])), (a0, .inl (cA, (100, .inl f0))), (r1, .inr (0, [.ref a1, .int (nI L1.length)])), (a1, .inl (cA, (100, .inl f1))), (r2, .inr (0, [.ref a2, .int n2])), (a2, .inl (cA, (100, .inl f2))), (r3, .inr (0, [.ref a3, .int n3])), (a3, .inl (cA, (100, .inl f3))), (y0, .inr (2, [.int 1, .int (nI rn), .ref q1, .ref q2, .int mn, .ref q3, .ref q4, .int ct, .int il, .ref q5])), (q1, .inl (cA, (2, .inl sf))), (q2, .inl (cA, (60, .inl lf))), (q3, .inl (cA, (320, .inl rf))), (q4, .inl (cA, (320, .inl nf))), (q5, .inl (cA, (6, .inl gf))), (o, .inl (cL, (1, .inr (.inl fo))))] := hD
    refine lv_istore (lv' := [(6, .int 0), (5, .int 1), (4, .int (nI i)), (3, .ref o), (2, .ref y0), (1, .ref x0), (0, .ref b)]) hx hb dL_law_391 hl (by decide) rfl (fun ls hl => ?_)
    refine lv_aload_n hx hb dL_law_393 rfl (lv_at hl 4 rfl) ?_
    refine g_RVi (As := []) (rest := []) ⟨hx, hb, hml, hown, hts⟩ (mt_X2_thrown l dC dI cA H.size y0 q1 q2 q3 q4 q5 rn 1 sf lf mn rf nf ct il gf) (cwV 0 hts gL_law_X2_thrown rfl rfl rfl hdX2_thrown ⟨Nat.le_of_ble_eq_true rfl, Nat.le_of_ble_eq_true rfl⟩) hP hK hD [9, 10, 11, 12, 13, 14] (by decide) rfl (va_recv hK hP (ci := 2) (q0 := 9) rfl rfl) rfl hl.1 rfl (Nat.le_of_ble_eq_true rfl) dL_law_394 hc1 hs1 ?_
    refine lv_iload hx hb dL_law_397 (lv_at hl 1 rfl) ?_
    refine lv_icmp_eq (tgt := 404) hx hb dL_law_399 (by decide) (fun c399 => ?_) (fun c399 => ?_)
    · refine lv_iload hx hb dL_law_404 (lv_at hl 1 rfl) ?_
      refine lv_if_ne (tgt := 421) hx hb dL_law_406 (by decide) (fun c406 => ?_) (fun c406 => ?_)
      · have c406 : ¬ 1 = 0 := g_neT 1 0 (by omega) (by omega) c406
        refine lv_goto (tgt := 1241) hx hb dL_law_421 (by decide) ?_
        exact kk rn L0 L1 _ _ _ _ _ ⟨f0, f1, n2, f2, n3, f3, 1, sf, lf, mn, rf, nf, ct, il, gf, fo, hP, hD, hS, hR0, hR1, hl0, hl1, hrn, hr6, hk0, hk1, hW⟩ (by omega) (by omega) (lv_sub hl [2, 3, 4, 5, 6] rfl)
      · exact absurd c406 (by decide)
    · exact absurd (by decide) c399
  · by_cases hk : L0.length + L1.length ≤ 30
    · refine lv_aload_n hx hb dL_law_368 rfl (lv_at hl 3 rfl) ?_
      refine lv_aload_n hx hb dL_law_369 rfl (lv_at hl 4 rfl) ?_
      refine lv_iload hx hb dL_law_370 (lv_at hl 0 rfl) ?_
      refine lv_iconst (v := 1) hx hb dL_law_372 (by decide) ?_
      refine lv_iadd hx hb dL_law_373 ?_
      rw [show (nI i) + 1 = nI (i + 1) from nI_add i 1]
      refine va_sld hx hb hX hbl hbA hS (vp_in_nI (by omega) (by omega)) dL_law_374 ?_
      rw [show (nI (i + 1)).toNatClampNeg = i + 1 from nI_clamp (by omega)]
      rw [h1]
      refine lv_aload_n hx hb dL_law_375 rfl (lv_at hl 1 rfl) ?_
      refine g_LS (As := [.ref x0, .int (nI 0), .ref o]) (rest := []) ⟨hx, hb, hml, hown, hts⟩ (mt_L_join0 l htr dC dI cA cL H.size x0 r0 r1 r2 r3 rn a0 a1 L0 f0 L1 f1 o fo hR0 hR1 (by omega)) (vx_cwSW 3 hts gL_law_L_join rfl rfl rfl hdL_join ⟨Nat.le_of_ble_eq_true rfl, Nat.le_of_ble_eq_true rfl⟩) hP hKl hD hS hA hZ [0, 1, 2, 3, 4, 15] (by decide) rfl rfl hl.1 rfl (Nat.le_of_ble_eq_true rfl) dL_law_376 hc0 hs0 (fun u9 => [(x0, .inr (1, [.ref r0, .ref r1, .ref r2, .ref r3, .int (nI rn)])), (r0, .inr (0, [.ref a0, .int (nI ((L0 ++ L1).length))])), (a0, .inl (cA, (100, .inl u9))), (r1, .inr (0, [.ref a1, .int (nI L1.length)])), (a1, .inl (cA, (100, .inl f1))), (r2, .inr (0, [.ref a2, .int n2])), (a2, .inl (cA, (100, .inl f2))), (r3, .inr (0, [.ref a3, .int n3])), (a3, .inl (cA, (100, .inl f3))), (y0, .inr (2, [.int tv, .int (nI rn), .ref q1, .ref q2, .int mn, .ref q3, .ref q4, .int ct, .int il, .ref q5])), (q1, .inl (cA, (2, .inl sf))), (q2, .inl (cA, (60, .inl lf))), (q3, .inl (cA, (320, .inl rf))), (q4, .inl (cA, (320, .inl nf))), (q5, .inl (cA, (6, .inl gf))), (o, .inl (cL, (1, .inr (.inl (vp_updL fo 0 (nI ((L0 ++ L1).length)).toInt64)))))]) (fun _ => rfl) (fun _ => rfl) (fun u H locs hw_2 hP hD hS => ?_)
      obtain ⟨f1_1, rfl⟩ : ∃ z, z = u := ⟨_, rfl⟩
      have hw_2 : RI (L0 ++ L1) f1_1 := hw_2
      have hP : va_P (dC, dI) vwCl [(x0, .inr (1, [.ref r0, .ref r1, .ref r2, .ref r3, .int (nI rn)])), (r0, .inr (0, [.ref a0, .int (nI ((L0 ++ L1).length))])), (a0, .inl (cA, (100, .inl f1_1))), (r1, .inr (0, [.ref a1, .int (nI L1.length)])), (a1, .inl (cA, (100, .inl f1))), (r2, .inr (0, [.ref a2, .int n2])), (a2, .inl (cA, (100, .inl f2))), (r3, .inr (0, [.ref a3, .int n3])), (a3, .inl (cA, (100, .inl f3))), (y0, .inr (2, [.int tv, .int (nI rn), .ref q1, .ref q2, .int mn, .ref q3, .ref q4, .int ct, .int il, .ref q5])), (q1, .inl (cA, (2, .inl sf))), (q2, .inl (cA, (60, .inl lf))), (q3, .inl (cA, (320, .inl rf))), (q4, .inl (cA, (320, .inl nf))), (q5, .inl (cA, (6, .inl gf))), (o, .inl (cL, (1, .inr (.inl (vp_updL fo 0 (nI ((L0 ++ L1).length)).toInt64)))))] H := hP
      have hD : va_D A [(x0, .inr (1, [.ref r0, .ref r1, .ref r2, .ref r3, .int (nI rn)])), (r0, .inr (0, [.ref a0, .int (nI ((L0 ++ L1).length))])), (a0, .inl (cA, (100, .inl f1_1))), (r1, .inr (0, [.ref a1, .int (nI L1.length)])), (a1, .inl (cA, (100, .inl f1))), (r2, .inr (0, [.ref a2, .int n2])), (a2, .inl (cA, (100, .inl f2))), (r3, .inr (0, [.ref a3, .int n3])), (a3, .inl (cA, (100, .inl f3))), (y0, .inr (2, [.int tv, .int (nI rn), .ref q1, .ref q2, .int mn, .ref q3, .ref q4, .int ct, .int il, .ref q5])), (q1, .inl (cA, (2, .inl sf))), (q2, .inl (cA, (60, .inl lf))), (q3, .inl (cA, (320, .inl rf))), (q4, .inl (cA, (320, .inl nf))), (q5, .inl (cA, (6, .inl gf))), (o, .inl (cL, (1, .inr (.inl (vp_updL fo 0 (nI ((L0 ++ L1).length)).toInt64)))))] := hD
      refine lv_istore (lv' := [(5, .int 0), (4, .int (nI i)), (3, .ref o), (2, .ref y0), (1, .ref x0), (0, .ref b)]) hx hb dL_law_379 hl (by decide) rfl (fun ls hl => ?_)
      refine lv_aload_n hx hb dL_law_381 rfl (lv_at hl 3 rfl) ?_
      refine lv_aload_n hx hb dL_law_382 rfl (lv_at hl 5 rfl) ?_
      refine lv_iload hx hb dL_law_383 (lv_at hl 1 rfl) ?_
      refine lv_iconst (v := 1) hx hb dL_law_385 (by decide) ?_
      refine lv_iadd hx hb dL_law_386 ?_
      rw [show (nI i) + 1 = nI (i + 1) from nI_add i 1]
      refine va_sld hx hb hX hbl hbA hS (vp_in_nI (by omega) (by omega)) dL_law_387 ?_
      rw [show (nI (i + 1)).toNatClampNeg = i + 1 from nI_clamp (by omega)]
      rw [h1]
      refine g_MVi (As := [.int (nI 0)]) (rest := []) ⟨hx, hb, hml, hown, hts⟩ (mt_X2_join l dC dI cA H.size y0 q1 q2 q3 q4 q5 rn tv sf lf mn rf nf ct il gf (V2 L0 L1) 0 hW (by omega) hk) (cwV 1 hts gL_law_X2_join rfl rfl rfl hdX2_join ⟨Nat.le_of_ble_eq_true rfl, Nat.le_of_ble_eq_true rfl⟩) hP hK hD hS hA [9, 10, 11, 12, 13, 14] (by decide) rfl (va_recv hK hP (ci := 2) (q0 := 9) rfl rfl) rfl hl.1 rfl (Nat.le_of_ble_eq_true rfl) dL_law_388 hc0 hs0 (fun u9 => [(x0, .inr (1, [.ref r0, .ref r1, .ref r2, .ref r3, .int (nI rn)])), (r0, .inr (0, [.ref a0, .int (nI ((L0 ++ L1).length))])), (a0, .inl (cA, (100, .inl f1_1))), (r1, .inr (0, [.ref a1, .int (nI L1.length)])), (a1, .inl (cA, (100, .inl f1))), (r2, .inr (0, [.ref a2, .int n2])), (a2, .inl (cA, (100, .inl f2))), (r3, .inr (0, [.ref a3, .int n3])), (a3, .inl (cA, (100, .inl f3))), (y0, .inr (2, [.int 0, .int (nI rn), .ref q1, .ref q2, .int (nI (((V2 L0 L1) 0 ++ (V2 L0 L1) (1 - 0)).length)), .ref q3, .ref q4, .int ct, .int il, .ref q5])), (q1, .inl (cA, (2, .inl u9.1))), (q2, .inl (cA, (60, .inl u9.2.1))), (q3, .inl (cA, (320, .inl u9.2.2))), (q4, .inl (cA, (320, .inl nf))), (q5, .inl (cA, (6, .inl gf))), (o, .inl (cL, (1, .inr (.inl (vp_updL fo 0 (nI ((L0 ++ L1).length)).toInt64)))))]) (fun _ => rfl) (fun _ => rfl) (fun u H locs hw_6 hP hD hS => ?_)
      obtain ⟨s1_3, l1_4, r1_5⟩ := u
      have hw_6 : MW (upW (V2 L0 L1) 0 ((V2 L0 L1) 0 ++ (V2 L0 L1) (1 - 0))) s1_3 l1_4 := hw_6
      have hP : va_P (dC, dI) vwCl [(x0, .inr (1, [.ref r0, .ref r1, .ref r2, .ref r3, .int (nI rn)])), (r0, .inr (0, [.ref a0, .int (nI ((L0 ++ L1).length))])), (a0, .inl (cA, (100, .inl f1_1))), (r1, .inr (0, [.ref a1, .int (nI L1.length)])), (a1, .inl (cA, (100, .inl f1))), (r2, .inr (0, [.ref a2, .int n2])), (a2, .inl (cA, (100, .inl f2))), (r3, .inr (0, [.ref a3, .int n3])), (a3, .inl (cA, (100, .inl f3))), (y0, .inr (2, [.int 0, .int (nI rn), .ref q1, .ref q2, .int (nI (((V2 L0 L1) 0 ++ (V2 L0 L1) (1 - 0)).length)), .ref q3, .ref q4, .int ct, .int il, .ref q5])), (q1, .inl (cA, (2, .inl s1_3))), (q2, .inl (cA, (60, .inl l1_4))), (q3, .inl (cA, (320, .inl r1_5))), (q4, .inl (cA, (320, .inl nf))), (q5, .inl (cA, (6, .inl gf))), (o, .inl (cL, (1, .inr (.inl (vp_updL fo 0 (nI ((L0 ++ L1).length)).toInt64)))))] H := hP
      have hD : va_D A [(x0, .inr (1, [.ref r0, .ref r1, .ref r2, .ref r3, .int (nI rn)])), (r0, .inr (0, [.ref a0, .int (nI ((L0 ++ L1).length))])), (a0, .inl (cA, (100, .inl f1_1))), (r1, .inr (0, [.ref a1, .int (nI L1.length)])), (a1, .inl (cA, (100, .inl f1))), (r2, .inr (0, [.ref a2, .int n2])), (a2, .inl (cA, (100, .inl f2))), (r3, .inr (0, [.ref a3, .int n3])), (a3, .inl (cA, (100, .inl f3))), (y0, .inr (2, [.int 0, .int (nI rn), .ref q1, .ref q2, .int (nI (((V2 L0 L1) 0 ++ (V2 L0 L1) (1 - 0)).length)), .ref q3, .ref q4, .int ct, .int il, .ref q5])), (q1, .inl (cA, (2, .inl s1_3))), (q2, .inl (cA, (60, .inl l1_4))), (q3, .inl (cA, (320, .inl r1_5))), (q4, .inl (cA, (320, .inl nf))), (q5, .inl (cA, (6, .inl gf))), (o, .inl (cL, (1, .inr (.inl (vp_updL fo 0 (nI ((L0 ++ L1).length)).toInt64)))))] := hD
      refine lv_istore (lv' := [(6, .int (nI (((V2 L0 L1) 0 ++ (V2 L0 L1) (1 - 0)).length))), (5, .int 0), (4, .int (nI i)), (3, .ref o), (2, .ref y0), (1, .ref x0), (0, .ref b)]) hx hb dL_law_391 hl (by decide) rfl (fun ls hl => ?_)
      refine lv_aload_n hx hb dL_law_393 rfl (lv_at hl 4 rfl) ?_
      refine g_RVi (As := []) (rest := []) ⟨hx, hb, hml, hown, hts⟩ (mt_X2_thrown l dC dI cA H.size y0 q1 q2 q3 q4 q5 rn 0 s1_3 l1_4 (nI (((V2 L0 L1) 0 ++ (V2 L0 L1) (1 - 0)).length)) r1_5 nf ct il gf) (cwV 0 hts gL_law_X2_thrown rfl rfl rfl hdX2_thrown ⟨Nat.le_of_ble_eq_true rfl, Nat.le_of_ble_eq_true rfl⟩) hP hK hD [9, 10, 11, 12, 13, 14] (by decide) rfl (va_recv hK hP (ci := 2) (q0 := 9) rfl rfl) rfl hl.1 rfl (Nat.le_of_ble_eq_true rfl) dL_law_394 hc0 hs0 ?_
      refine lv_iload hx hb dL_law_397 (lv_at hl 1 rfl) ?_
      refine lv_icmp_eq (tgt := 404) hx hb dL_law_399 (by decide) (fun c399 => ?_) (fun c399 => ?_)
      · refine lv_iload hx hb dL_law_404 (lv_at hl 1 rfl) ?_
        refine lv_if_ne (tgt := 421) hx hb dL_law_406 (by decide) (fun c406 => ?_) (fun c406 => ?_)
        · exact absurd (by decide) c406
        · have c406 : 0 = 0 := g_neF 0 0 (by omega) (by omega) c406
          refine lv_aload_n hx hb dL_law_409 rfl (lv_at hl 3 rfl) ?_
          refine lv_iconst (v := 0) hx hb dL_law_410 (by decide) ?_
          refine va_lald hx hb hKl hP 15 1 rfl rfl (vp_in_nI (n := 0) (by omega) (by decide)) dL_law_411 ?_
          rw [show (0 : Int32).toNatClampNeg = 0 from by decide, pk_uLs]
          refine lv_iload hx hb dL_law_412 (lv_at hl 0 rfl) ?_
          refine lv_i2l (v := (nI (((V2 L0 L1) 0 ++ (V2 L0 L1) (1 - 0)).length)).toInt64) hx hb dL_law_414 rfl ?_
          refine W.lcmp hx hb dL_law_415 ?_
          rw [show lg_cmp ((nI ((L0 ++ L1).length)).toInt64) ((nI (((V2 L0 L1) 0 ++ (V2 L0 L1) (1 - 0)).length)).toInt64) = 0 from (lg_cmp_eq _ _).mpr rfl]
          refine lv_if_eq (tgt := 421) hx hb dL_law_416 (by decide) (fun c416 => ?_) (fun c416 => ?_)
          · have c416 : 0 = 0 := g_eqT 0 0 (by omega) (by omega) c416
            refine lv_goto (tgt := 1241) hx hb dL_law_421 (by decide) ?_
            exact kk rn (L0 ++ L1) L1 _ _ _ _ _ ⟨f1_1, f1, n2, f2, n3, f3, 0, s1_3, l1_4, nI (((V2 L0 L1) 0 ++ (V2 L0 L1) (1 - 0)).length), r1_5, nf, ct, il, gf, vp_updL fo 0 (nI ((L0 ++ L1).length)).toInt64, hP, hD, hS, hw_2, hR1, by rw [List.length_append]; omega, hl1, hrn, hr6, okL_app hk0 hk1, hk1, MW_c0 hw_6⟩ (by omega) (by omega) (lv_sub hl [2, 3, 4, 5, 6] rfl)
          · exact absurd (by decide) c416
      · exact absurd (by decide) c399
    · refine lv_aload_n hx hb dL_law_368 rfl (lv_at hl 3 rfl) ?_
      refine lv_aload_n hx hb dL_law_369 rfl (lv_at hl 4 rfl) ?_
      refine lv_iload hx hb dL_law_370 (lv_at hl 0 rfl) ?_
      refine lv_iconst (v := 1) hx hb dL_law_372 (by decide) ?_
      refine lv_iadd hx hb dL_law_373 ?_
      rw [show (nI i) + 1 = nI (i + 1) from nI_add i 1]
      refine va_sld hx hb hX hbl hbA hS (vp_in_nI (by omega) (by omega)) dL_law_374 ?_
      rw [show (nI (i + 1)).toNatClampNeg = i + 1 from nI_clamp (by omega)]
      rw [h1]
      refine lv_aload_n hx hb dL_law_375 rfl (lv_at hl 1 rfl) ?_
      refine g_LS (As := [.ref x0, .int (nI 0), .ref o]) (rest := []) ⟨hx, hb, hml, hown, hts⟩ (mt_L_join_2_0 l htr dC dI cA cL H.size x0 r0 r1 r2 r3 rn a0 a1 L0 f0 L1 f1 o fo hR0 hR1 (by omega)) (vx_cwSW 3 hts gL_law_L_join rfl rfl rfl hdL_join ⟨Nat.le_of_ble_eq_true rfl, Nat.le_of_ble_eq_true rfl⟩) hP hKl hD hS hA hZ [0, 1, 2, 3, 4, 15] (by decide) rfl rfl hl.1 rfl (Nat.le_of_ble_eq_true rfl) dL_law_376 hc1 hs1 (fun u9 => [(x0, .inr (1, [.ref r0, .ref r1, .ref r2, .ref r3, .int (nI rn)])), (r0, .inr (0, [.ref a0, .int (nI L0.length)])), (a0, .inl (cA, (100, .inl f0))), (r1, .inr (0, [.ref a1, .int (nI L1.length)])), (a1, .inl (cA, (100, .inl f1))), (r2, .inr (0, [.ref a2, .int n2])), (a2, .inl (cA, (100, .inl f2))), (r3, .inr (0, [.ref a3, .int n3])), (a3, .inl (cA, (100, .inl f3))), (y0, .inr (2, [.int tv, .int (nI rn), .ref q1, .ref q2, .int mn, .ref q3, .ref q4, .int ct, .int il, .ref q5])), (q1, .inl (cA, (2, .inl sf))), (q2, .inl (cA, (60, .inl lf))), (q3, .inl (cA, (320, .inl rf))), (q4, .inl (cA, (320, .inl nf))), (q5, .inl (cA, (6, .inl gf))), (o, .inl (cL, (1, .inr (.inl fo))))]) (fun _ => rfl) (fun _ => rfl) (fun u H locs hw_1 hP hD hS => ?_)
      have hP : va_P (dC, dI) vwCl [(x0, .inr (1, [.ref r0, .ref r1, .ref r2, .ref r3, .int (nI rn)])), (r0, .inr (0, [.ref a0, .int (nI L0.length)])), (a0, .inl (cA, (100, .inl f0))), (r1, .inr (0, [.ref a1, .int (nI L1.length)])), (a1, .inl (cA, (100, .inl f1))), (r2, .inr (0, [.ref a2, .int n2])), (a2, .inl (cA, (100, .inl f2))), (r3, .inr (0, [.ref a3, .int n3])), (a3, .inl (cA, (100, .inl f3))), (y0, .inr (2, [.int tv, .int (nI rn), .ref q1, .ref q2, .int mn, .ref q3, .ref q4, .int ct, .int il, .ref q5])), (q1, .inl (cA, (2, .inl sf))), (q2, .inl (cA, (60, .inl lf))), (q3, .inl (cA, (320, .inl rf))), (q4, .inl (cA, (320, .inl nf))), (q5, .inl (cA, (6, .inl gf))), (o, .inl (cL, (1, .inr (.inl fo))))] H := hP
      have hD : va_D A [(x0, .inr (1, [.ref r0, .ref r1, .ref r2, .ref r3, .int (nI rn)])), (r0, .inr (0, [.ref a0, .int (nI L0.length)])), (a0, .inl (cA, (100, .inl f0))), (r1, .inr (0, [.ref a1, .int (nI L1.length)])), (a1, .inl (cA, (100, .inl f1))), (r2, .inr (0, [.ref a2, .int n2])), (a2, .inl (cA, (100, .inl f2))), (r3, .inr (0, [.ref a3, .int n3])), (a3, .inl (cA, (100, .inl f3))), (y0, .inr (2, [.int tv, .int (nI rn), .ref q1, .ref q2, .int mn, .ref q3, .ref q4, .int ct, .int il, .ref q5])), (q1, .inl (cA, (2, .inl sf))), (q2, .inl (cA, (60, .inl lf))), (q3, .inl (cA, (320, .inl rf))), (q4, .inl (cA, (320, .inl nf))), (q5, .inl (cA, (6, .inl gf))), (o, .inl (cL, (1, .inr (.inl fo))))] := hD
      refine lv_istore (lv' := [(5, .int 2), (4, .int (nI i)), (3, .ref o), (2, .ref y0), (1, .ref x0), (0, .ref b)]) hx hb dL_law_379 hl (by decide) rfl (fun ls hl => ?_)
      refine lv_aload_n hx hb dL_law_381 rfl (lv_at hl 3 rfl) ?_
      refine lv_aload_n hx hb dL_law_382 rfl (lv_at hl 5 rfl) ?_
      refine lv_iload hx hb dL_law_383 (lv_at hl 1 rfl) ?_
      refine lv_iconst (v := 1) hx hb dL_law_385 (by decide) ?_
      refine lv_iadd hx hb dL_law_386 ?_
      rw [show (nI i) + 1 = nI (i + 1) from nI_add i 1]
      refine va_sld hx hb hX hbl hbA hS (vp_in_nI (by omega) (by omega)) dL_law_387 ?_
      rw [show (nI (i + 1)).toNatClampNeg = i + 1 from nI_clamp (by omega)]
      rw [h1]
      refine g_MVi (As := [.int (nI 0)]) (rest := []) ⟨hx, hb, hml, hown, hts⟩ (mt_X2_join_2 l dC dI cA H.size y0 q1 q2 q3 q4 q5 rn tv sf lf mn rf nf ct il gf (V2 L0 L1) 0 hW (by omega) (show 30 < L0.length + L1.length from by omega)) (cwV 1 hts gL_law_X2_join rfl rfl rfl hdX2_join ⟨Nat.le_of_ble_eq_true rfl, Nat.le_of_ble_eq_true rfl⟩) hP hK hD hS hA [9, 10, 11, 12, 13, 14] (by decide) rfl (va_recv hK hP (ci := 2) (q0 := 9) rfl rfl) rfl hl.1 rfl (Nat.le_of_ble_eq_true rfl) dL_law_388 hc1 hs1 (fun u9 => [(x0, .inr (1, [.ref r0, .ref r1, .ref r2, .ref r3, .int (nI rn)])), (r0, .inr (0, [.ref a0, .int (nI L0.length)])), (a0, .inl (cA, (100, .inl f0))), (r1, .inr (0, [.ref a1, .int (nI L1.length)])), (a1, .inl (cA, (100, .inl f1))), (r2, .inr (0, [.ref a2, .int n2])), (a2, .inl (cA, (100, .inl f2))), (r3, .inr (0, [.ref a3, .int n3])), (a3, .inl (cA, (100, .inl f3))), (y0, .inr (2, [.int 2, .int (nI rn), .ref q1, .ref q2, .int mn, .ref q3, .ref q4, .int ct, .int il, .ref q5])), (q1, .inl (cA, (2, .inl sf))), (q2, .inl (cA, (60, .inl lf))), (q3, .inl (cA, (320, .inl rf))), (q4, .inl (cA, (320, .inl nf))), (q5, .inl (cA, (6, .inl gf))), (o, .inl (cL, (1, .inr (.inl fo))))]) (fun _ => rfl) (fun _ => rfl) (fun u H locs hw_2 hP hD hS => ?_)
      have hw_2 : True := hw_2
      have hP : va_P (dC, dI) vwCl [(x0, .inr (1, [.ref r0, .ref r1, .ref r2, .ref r3, .int (nI rn)])), (r0, .inr (0, [.ref a0, .int (nI L0.length)])), (a0, .inl (cA, (100, .inl f0))), (r1, .inr (0, [.ref a1, .int (nI L1.length)])), (a1, .inl (cA, (100, .inl f1))), (r2, .inr (0, [.ref a2, .int n2])), (a2, .inl (cA, (100, .inl f2))), (r3, .inr (0, [.ref a3, .int n3])), (a3, .inl (cA, (100, .inl f3))), (y0, .inr (2, [.int 2, .int (nI rn), .ref q1, .ref q2, .int mn, .ref q3, .ref q4, .int ct, .int il, .ref q5])), (q1, .inl (cA, (2, .inl sf))), (q2, .inl (cA, (60, .inl lf))), (q3, .inl (cA, (320, .inl rf))), (q4, .inl (cA, (320, .inl nf))), (q5, .inl (cA, (6, .inl gf))), (o, .inl (cL, (1, .inr (.inl fo))))] H := hP
      have hD : va_D A [(x0, .inr (1, [.ref r0, .ref r1, .ref r2, .ref r3, .int (nI rn)])), (r0, .inr (0, [.ref a0, .int (nI L0.length)])), (a0, .inl (cA, (100, .inl f0))), (r1, .inr (0, [.ref a1, .int (nI L1.length)])), (a1, .inl (cA, (100, .inl f1))), (r2, .inr (0, [.ref a2, .int n2])), (a2, .inl (cA, (100, .inl f2))), (r3, .inr (0, [.ref a3, .int n3])), (a3, .inl (cA, (100, .inl f3))), (y0, .inr (2, [.int 2, .int (nI rn), .ref q1, .ref q2, .int mn, .ref q3, .ref q4, .int ct, .int il, .ref q5])), (q1, .inl (cA, (2, .inl sf))), (q2, .inl (cA, (60, .inl lf))), (q3, .inl (cA, (320, .inl rf))), (q4, .inl (cA, (320, .inl nf))), (q5, .inl (cA, (6, .inl gf))), (o, .inl (cL, (1, .inr (.inl fo))))] := hD
      refine lv_istore (lv' := [(6, .int 0), (5, .int 2), (4, .int (nI i)), (3, .ref o), (2, .ref y0), (1, .ref x0), (0, .ref b)]) hx hb dL_law_391 hl (by decide) rfl (fun ls hl => ?_)
      refine lv_aload_n hx hb dL_law_393 rfl (lv_at hl 4 rfl) ?_
      refine g_RVi (As := []) (rest := []) ⟨hx, hb, hml, hown, hts⟩ (mt_X2_thrown l dC dI cA H.size y0 q1 q2 q3 q4 q5 rn 2 sf lf mn rf nf ct il gf) (cwV 0 hts gL_law_X2_thrown rfl rfl rfl hdX2_thrown ⟨Nat.le_of_ble_eq_true rfl, Nat.le_of_ble_eq_true rfl⟩) hP hK hD [9, 10, 11, 12, 13, 14] (by decide) rfl (va_recv hK hP (ci := 2) (q0 := 9) rfl rfl) rfl hl.1 rfl (Nat.le_of_ble_eq_true rfl) dL_law_394 hc1 hs1 ?_
      refine lv_iload hx hb dL_law_397 (lv_at hl 1 rfl) ?_
      refine lv_icmp_eq (tgt := 404) hx hb dL_law_399 (by decide) (fun c399 => ?_) (fun c399 => ?_)
      · refine lv_iload hx hb dL_law_404 (lv_at hl 1 rfl) ?_
        refine lv_if_ne (tgt := 421) hx hb dL_law_406 (by decide) (fun c406 => ?_) (fun c406 => ?_)
        · have c406 : ¬ 2 = 0 := g_neT 2 0 (by omega) (by omega) c406
          refine lv_goto (tgt := 1241) hx hb dL_law_421 (by decide) ?_
          exact kk rn L0 L1 _ _ _ _ _ ⟨f0, f1, n2, f2, n3, f3, 2, sf, lf, mn, rf, nf, ct, il, gf, fo, hP, hD, hS, hR0, hR1, hl0, hl1, hrn, hr6, hk0, hk1, hW⟩ (by omega) (by omega) (lv_sub hl [2, 3, 4, 5, 6] rfl)
        · exact absurd c406 (by decide)
      · exact absurd (by decide) c399
  · by_cases hk : L0.length + L1.length ≤ 30
    · refine lv_aload_n hx hb dL_law_368 rfl (lv_at hl 3 rfl) ?_
      refine lv_aload_n hx hb dL_law_369 rfl (lv_at hl 4 rfl) ?_
      refine lv_iload hx hb dL_law_370 (lv_at hl 0 rfl) ?_
      refine lv_iconst (v := 1) hx hb dL_law_372 (by decide) ?_
      refine lv_iadd hx hb dL_law_373 ?_
      rw [show (nI i) + 1 = nI (i + 1) from nI_add i 1]
      refine va_sld hx hb hX hbl hbA hS (vp_in_nI (by omega) (by omega)) dL_law_374 ?_
      rw [show (nI (i + 1)).toNatClampNeg = i + 1 from nI_clamp (by omega)]
      rw [h1]
      refine lv_aload_n hx hb dL_law_375 rfl (lv_at hl 1 rfl) ?_
      refine g_LS (As := [.ref x0, .int (nI 1), .ref o]) (rest := []) ⟨hx, hb, hml, hown, hts⟩ (mt_L_join1 l htr dC dI cA cL H.size x0 r0 r1 r2 r3 rn a1 a0 L1 f1 L0 f0 o fo hR1 hR0 (by omega)) (vx_cwSW 3 hts gL_law_L_join rfl rfl rfl hdL_join ⟨Nat.le_of_ble_eq_true rfl, Nat.le_of_ble_eq_true rfl⟩) hP hKl hD hS hA hZ [0, 3, 4, 1, 2, 15] (by decide) rfl rfl hl.1 rfl (Nat.le_of_ble_eq_true rfl) dL_law_376 hc0 hs0 (fun u9 => [(x0, .inr (1, [.ref r0, .ref r1, .ref r2, .ref r3, .int (nI rn)])), (r0, .inr (0, [.ref a0, .int (nI L0.length)])), (a0, .inl (cA, (100, .inl f0))), (r1, .inr (0, [.ref a1, .int (nI ((L1 ++ L0).length))])), (a1, .inl (cA, (100, .inl u9))), (r2, .inr (0, [.ref a2, .int n2])), (a2, .inl (cA, (100, .inl f2))), (r3, .inr (0, [.ref a3, .int n3])), (a3, .inl (cA, (100, .inl f3))), (y0, .inr (2, [.int tv, .int (nI rn), .ref q1, .ref q2, .int mn, .ref q3, .ref q4, .int ct, .int il, .ref q5])), (q1, .inl (cA, (2, .inl sf))), (q2, .inl (cA, (60, .inl lf))), (q3, .inl (cA, (320, .inl rf))), (q4, .inl (cA, (320, .inl nf))), (q5, .inl (cA, (6, .inl gf))), (o, .inl (cL, (1, .inr (.inl (vp_updL fo 0 (nI ((L1 ++ L0).length)).toInt64)))))]) (fun _ => rfl) (fun _ => rfl) (fun u H locs hw_2 hP hD hS => ?_)
      obtain ⟨f1_1, rfl⟩ : ∃ z, z = u := ⟨_, rfl⟩
      have hw_2 : RI (L1 ++ L0) f1_1 := hw_2
      have hP : va_P (dC, dI) vwCl [(x0, .inr (1, [.ref r0, .ref r1, .ref r2, .ref r3, .int (nI rn)])), (r0, .inr (0, [.ref a0, .int (nI L0.length)])), (a0, .inl (cA, (100, .inl f0))), (r1, .inr (0, [.ref a1, .int (nI ((L1 ++ L0).length))])), (a1, .inl (cA, (100, .inl f1_1))), (r2, .inr (0, [.ref a2, .int n2])), (a2, .inl (cA, (100, .inl f2))), (r3, .inr (0, [.ref a3, .int n3])), (a3, .inl (cA, (100, .inl f3))), (y0, .inr (2, [.int tv, .int (nI rn), .ref q1, .ref q2, .int mn, .ref q3, .ref q4, .int ct, .int il, .ref q5])), (q1, .inl (cA, (2, .inl sf))), (q2, .inl (cA, (60, .inl lf))), (q3, .inl (cA, (320, .inl rf))), (q4, .inl (cA, (320, .inl nf))), (q5, .inl (cA, (6, .inl gf))), (o, .inl (cL, (1, .inr (.inl (vp_updL fo 0 (nI ((L1 ++ L0).length)).toInt64)))))] H := hP
      have hD : va_D A [(x0, .inr (1, [.ref r0, .ref r1, .ref r2, .ref r3, .int (nI rn)])), (r0, .inr (0, [.ref a0, .int (nI L0.length)])), (a0, .inl (cA, (100, .inl f0))), (r1, .inr (0, [.ref a1, .int (nI ((L1 ++ L0).length))])), (a1, .inl (cA, (100, .inl f1_1))), (r2, .inr (0, [.ref a2, .int n2])), (a2, .inl (cA, (100, .inl f2))), (r3, .inr (0, [.ref a3, .int n3])), (a3, .inl (cA, (100, .inl f3))), (y0, .inr (2, [.int tv, .int (nI rn), .ref q1, .ref q2, .int mn, .ref q3, .ref q4, .int ct, .int il, .ref q5])), (q1, .inl (cA, (2, .inl sf))), (q2, .inl (cA, (60, .inl lf))), (q3, .inl (cA, (320, .inl rf))), (q4, .inl (cA, (320, .inl nf))), (q5, .inl (cA, (6, .inl gf))), (o, .inl (cL, (1, .inr (.inl (vp_updL fo 0 (nI ((L1 ++ L0).length)).toInt64)))))] := hD
      refine lv_istore (lv' := [(5, .int 0), (4, .int (nI i)), (3, .ref o), (2, .ref y0), (1, .ref x0), (0, .ref b)]) hx hb dL_law_379 hl (by decide) rfl (fun ls hl => ?_)
      refine lv_aload_n hx hb dL_law_381 rfl (lv_at hl 3 rfl) ?_
      refine lv_aload_n hx hb dL_law_382 rfl (lv_at hl 5 rfl) ?_
      refine lv_iload hx hb dL_law_383 (lv_at hl 1 rfl) ?_
      refine lv_iconst (v := 1) hx hb dL_law_385 (by decide) ?_
      refine lv_iadd hx hb dL_law_386 ?_
      rw [show (nI i) + 1 = nI (i + 1) from nI_add i 1]
      refine va_sld hx hb hX hbl hbA hS (vp_in_nI (by omega) (by omega)) dL_law_387 ?_
      rw [show (nI (i + 1)).toNatClampNeg = i + 1 from nI_clamp (by omega)]
      rw [h1]
      refine g_MVi (As := [.int (nI 1)]) (rest := []) ⟨hx, hb, hml, hown, hts⟩ (mt_X2_join l dC dI cA H.size y0 q1 q2 q3 q4 q5 rn tv sf lf mn rf nf ct il gf (V2 L0 L1) 1 hW (by omega) hk) (cwV 1 hts gL_law_X2_join rfl rfl rfl hdX2_join ⟨Nat.le_of_ble_eq_true rfl, Nat.le_of_ble_eq_true rfl⟩) hP hK hD hS hA [9, 10, 11, 12, 13, 14] (by decide) rfl (va_recv hK hP (ci := 2) (q0 := 9) rfl rfl) rfl hl.1 rfl (Nat.le_of_ble_eq_true rfl) dL_law_388 hc0 hs0 (fun u9 => [(x0, .inr (1, [.ref r0, .ref r1, .ref r2, .ref r3, .int (nI rn)])), (r0, .inr (0, [.ref a0, .int (nI L0.length)])), (a0, .inl (cA, (100, .inl f0))), (r1, .inr (0, [.ref a1, .int (nI ((L1 ++ L0).length))])), (a1, .inl (cA, (100, .inl f1_1))), (r2, .inr (0, [.ref a2, .int n2])), (a2, .inl (cA, (100, .inl f2))), (r3, .inr (0, [.ref a3, .int n3])), (a3, .inl (cA, (100, .inl f3))), (y0, .inr (2, [.int 0, .int (nI rn), .ref q1, .ref q2, .int (nI (((V2 L0 L1) 1 ++ (V2 L0 L1) (1 - 1)).length)), .ref q3, .ref q4, .int ct, .int il, .ref q5])), (q1, .inl (cA, (2, .inl u9.1))), (q2, .inl (cA, (60, .inl u9.2.1))), (q3, .inl (cA, (320, .inl u9.2.2))), (q4, .inl (cA, (320, .inl nf))), (q5, .inl (cA, (6, .inl gf))), (o, .inl (cL, (1, .inr (.inl (vp_updL fo 0 (nI ((L1 ++ L0).length)).toInt64)))))]) (fun _ => rfl) (fun _ => rfl) (fun u H locs hw_6 hP hD hS => ?_)
      obtain ⟨s1_3, l1_4, r1_5⟩ := u
      have hw_6 : MW (upW (V2 L0 L1) 1 ((V2 L0 L1) 1 ++ (V2 L0 L1) (1 - 1))) s1_3 l1_4 := hw_6
      have hP : va_P (dC, dI) vwCl [(x0, .inr (1, [.ref r0, .ref r1, .ref r2, .ref r3, .int (nI rn)])), (r0, .inr (0, [.ref a0, .int (nI L0.length)])), (a0, .inl (cA, (100, .inl f0))), (r1, .inr (0, [.ref a1, .int (nI ((L1 ++ L0).length))])), (a1, .inl (cA, (100, .inl f1_1))), (r2, .inr (0, [.ref a2, .int n2])), (a2, .inl (cA, (100, .inl f2))), (r3, .inr (0, [.ref a3, .int n3])), (a3, .inl (cA, (100, .inl f3))), (y0, .inr (2, [.int 0, .int (nI rn), .ref q1, .ref q2, .int (nI (((V2 L0 L1) 1 ++ (V2 L0 L1) (1 - 1)).length)), .ref q3, .ref q4, .int ct, .int il, .ref q5])), (q1, .inl (cA, (2, .inl s1_3))), (q2, .inl (cA, (60, .inl l1_4))), (q3, .inl (cA, (320, .inl r1_5))), (q4, .inl (cA, (320, .inl nf))), (q5, .inl (cA, (6, .inl gf))), (o, .inl (cL, (1, .inr (.inl (vp_updL fo 0 (nI ((L1 ++ L0).length)).toInt64)))))] H := hP
      have hD : va_D A [(x0, .inr (1, [.ref r0, .ref r1, .ref r2, .ref r3, .int (nI rn)])), (r0, .inr (0, [.ref a0, .int (nI L0.length)])), (a0, .inl (cA, (100, .inl f0))), (r1, .inr (0, [.ref a1, .int (nI ((L1 ++ L0).length))])), (a1, .inl (cA, (100, .inl f1_1))), (r2, .inr (0, [.ref a2, .int n2])), (a2, .inl (cA, (100, .inl f2))), (r3, .inr (0, [.ref a3, .int n3])), (a3, .inl (cA, (100, .inl f3))), (y0, .inr (2, [.int 0, .int (nI rn), .ref q1, .ref q2, .int (nI (((V2 L0 L1) 1 ++ (V2 L0 L1) (1 - 1)).length)), .ref q3, .ref q4, .int ct, .int il, .ref q5])), (q1, .inl (cA, (2, .inl s1_3))), (q2, .inl (cA, (60, .inl l1_4))), (q3, .inl (cA, (320, .inl r1_5))), (q4, .inl (cA, (320, .inl nf))), (q5, .inl (cA, (6, .inl gf))), (o, .inl (cL, (1, .inr (.inl (vp_updL fo 0 (nI ((L1 ++ L0).length)).toInt64)))))] := hD
      refine lv_istore (lv' := [(6, .int (nI (((V2 L0 L1) 1 ++ (V2 L0 L1) (1 - 1)).length))), (5, .int 0), (4, .int (nI i)), (3, .ref o), (2, .ref y0), (1, .ref x0), (0, .ref b)]) hx hb dL_law_391 hl (by decide) rfl (fun ls hl => ?_)
      refine lv_aload_n hx hb dL_law_393 rfl (lv_at hl 4 rfl) ?_
      refine g_RVi (As := []) (rest := []) ⟨hx, hb, hml, hown, hts⟩ (mt_X2_thrown l dC dI cA H.size y0 q1 q2 q3 q4 q5 rn 0 s1_3 l1_4 (nI (((V2 L0 L1) 1 ++ (V2 L0 L1) (1 - 1)).length)) r1_5 nf ct il gf) (cwV 0 hts gL_law_X2_thrown rfl rfl rfl hdX2_thrown ⟨Nat.le_of_ble_eq_true rfl, Nat.le_of_ble_eq_true rfl⟩) hP hK hD [9, 10, 11, 12, 13, 14] (by decide) rfl (va_recv hK hP (ci := 2) (q0 := 9) rfl rfl) rfl hl.1 rfl (Nat.le_of_ble_eq_true rfl) dL_law_394 hc0 hs0 ?_
      refine lv_iload hx hb dL_law_397 (lv_at hl 1 rfl) ?_
      refine lv_icmp_eq (tgt := 404) hx hb dL_law_399 (by decide) (fun c399 => ?_) (fun c399 => ?_)
      · refine lv_iload hx hb dL_law_404 (lv_at hl 1 rfl) ?_
        refine lv_if_ne (tgt := 421) hx hb dL_law_406 (by decide) (fun c406 => ?_) (fun c406 => ?_)
        · exact absurd (by decide) c406
        · have c406 : 0 = 0 := g_neF 0 0 (by omega) (by omega) c406
          refine lv_aload_n hx hb dL_law_409 rfl (lv_at hl 3 rfl) ?_
          refine lv_iconst (v := 0) hx hb dL_law_410 (by decide) ?_
          refine va_lald hx hb hKl hP 15 1 rfl rfl (vp_in_nI (n := 0) (by omega) (by decide)) dL_law_411 ?_
          rw [show (0 : Int32).toNatClampNeg = 0 from by decide, pk_uLs]
          refine lv_iload hx hb dL_law_412 (lv_at hl 0 rfl) ?_
          refine lv_i2l (v := (nI (((V2 L0 L1) 1 ++ (V2 L0 L1) (1 - 1)).length)).toInt64) hx hb dL_law_414 rfl ?_
          refine W.lcmp hx hb dL_law_415 ?_
          rw [show lg_cmp ((nI ((L1 ++ L0).length)).toInt64) ((nI (((V2 L0 L1) 1 ++ (V2 L0 L1) (1 - 1)).length)).toInt64) = 0 from (lg_cmp_eq _ _).mpr rfl]
          refine lv_if_eq (tgt := 421) hx hb dL_law_416 (by decide) (fun c416 => ?_) (fun c416 => ?_)
          · have c416 : 0 = 0 := g_eqT 0 0 (by omega) (by omega) c416
            refine lv_goto (tgt := 1241) hx hb dL_law_421 (by decide) ?_
            exact kk rn L0 (L1 ++ L0) _ _ _ _ _ ⟨f0, f1_1, n2, f2, n3, f3, 0, s1_3, l1_4, nI (((V2 L0 L1) 1 ++ (V2 L0 L1) (1 - 1)).length), r1_5, nf, ct, il, gf, vp_updL fo 0 (nI ((L1 ++ L0).length)).toInt64, hP, hD, hS, hR0, hw_2, hl0, by rw [List.length_append]; omega, hrn, hr6, hk0, okL_app hk1 hk0, MW_c1 hw_6⟩ (by omega) (by omega) (lv_sub hl [2, 3, 4, 5, 6] rfl)
          · exact absurd (by decide) c416
      · exact absurd (by decide) c399
    · refine lv_aload_n hx hb dL_law_368 rfl (lv_at hl 3 rfl) ?_
      refine lv_aload_n hx hb dL_law_369 rfl (lv_at hl 4 rfl) ?_
      refine lv_iload hx hb dL_law_370 (lv_at hl 0 rfl) ?_
      refine lv_iconst (v := 1) hx hb dL_law_372 (by decide) ?_
      refine lv_iadd hx hb dL_law_373 ?_
      rw [show (nI i) + 1 = nI (i + 1) from nI_add i 1]
      refine va_sld hx hb hX hbl hbA hS (vp_in_nI (by omega) (by omega)) dL_law_374 ?_
      rw [show (nI (i + 1)).toNatClampNeg = i + 1 from nI_clamp (by omega)]
      rw [h1]
      refine lv_aload_n hx hb dL_law_375 rfl (lv_at hl 1 rfl) ?_
      refine g_LS (As := [.ref x0, .int (nI 1), .ref o]) (rest := []) ⟨hx, hb, hml, hown, hts⟩ (mt_L_join_2_1 l htr dC dI cA cL H.size x0 r0 r1 r2 r3 rn a1 a0 L1 f1 L0 f0 o fo hR1 hR0 (by omega)) (vx_cwSW 3 hts gL_law_L_join rfl rfl rfl hdL_join ⟨Nat.le_of_ble_eq_true rfl, Nat.le_of_ble_eq_true rfl⟩) hP hKl hD hS hA hZ [0, 3, 4, 1, 2, 15] (by decide) rfl rfl hl.1 rfl (Nat.le_of_ble_eq_true rfl) dL_law_376 hc1 hs1 (fun u9 => [(x0, .inr (1, [.ref r0, .ref r1, .ref r2, .ref r3, .int (nI rn)])), (r0, .inr (0, [.ref a0, .int (nI L0.length)])), (a0, .inl (cA, (100, .inl f0))), (r1, .inr (0, [.ref a1, .int (nI L1.length)])), (a1, .inl (cA, (100, .inl f1))), (r2, .inr (0, [.ref a2, .int n2])), (a2, .inl (cA, (100, .inl f2))), (r3, .inr (0, [.ref a3, .int n3])), (a3, .inl (cA, (100, .inl f3))), (y0, .inr (2, [.int tv, .int (nI rn), .ref q1, .ref q2, .int mn, .ref q3, .ref q4, .int ct, .int il, .ref q5])), (q1, .inl (cA, (2, .inl sf))), (q2, .inl (cA, (60, .inl lf))), (q3, .inl (cA, (320, .inl rf))), (q4, .inl (cA, (320, .inl nf))), (q5, .inl (cA, (6, .inl gf))), (o, .inl (cL, (1, .inr (.inl fo))))]) (fun _ => rfl) (fun _ => rfl) (fun u H locs hw_1 hP hD hS => ?_)
      have hP : va_P (dC, dI) vwCl [(x0, .inr (1, [.ref r0, .ref r1, .ref r2, .ref r3, .int (nI rn)])), (r0, .inr (0, [.ref a0, .int (nI L0.length)])), (a0, .inl (cA, (100, .inl f0))), (r1, .inr (0, [.ref a1, .int (nI L1.length)])), (a1, .inl (cA, (100, .inl f1))), (r2, .inr (0, [.ref a2, .int n2])), (a2, .inl (cA, (100, .inl f2))), (r3, .inr (0, [.ref a3, .int n3])), (a3, .inl (cA, (100, .inl f3))), (y0, .inr (2, [.int tv, .int (nI rn), .ref q1, .ref q2, .int mn, .ref q3, .ref q4, .int ct, .int il, .ref q5])), (q1, .inl (cA, (2, .inl sf))), (q2, .inl (cA, (60, .inl lf))), (q3, .inl (cA, (320, .inl rf))), (q4, .inl (cA, (320, .inl nf))), (q5, .inl (cA, (6, .inl gf))), (o, .inl (cL, (1, .inr (.inl fo))))] H := hP
      have hD : va_D A [(x0, .inr (1, [.ref r0, .ref r1, .ref r2, .ref r3, .int (nI rn)])), (r0, .inr (0, [.ref a0, .int (nI L0.length)])), (a0, .inl (cA, (100, .inl f0))), (r1, .inr (0, [.ref a1, .int (nI L1.length)])), (a1, .inl (cA, (100, .inl f1))), (r2, .inr (0, [.ref a2, .int n2])), (a2, .inl (cA, (100, .inl f2))), (r3, .inr (0, [.ref a3, .int n3])), (a3, .inl (cA, (100, .inl f3))), (y0, .inr (2, [.int tv, .int (nI rn), .ref q1, .ref q2, .int mn, .ref q3, .ref q4, .int ct, .int il, .ref q5])), (q1, .inl (cA, (2, .inl sf))), (q2, .inl (cA, (60, .inl lf))), (q3, .inl (cA, (320, .inl rf))), (q4, .inl (cA, (320, .inl nf))), (q5, .inl (cA, (6, .inl gf))), (o, .inl (cL, (1, .inr (.inl fo))))] := hD
      refine lv_istore (lv' := [(5, .int 2), (4, .int (nI i)), (3, .ref o), (2, .ref y0), (1, .ref x0), (0, .ref b)]) hx hb dL_law_379 hl (by decide) rfl (fun ls hl => ?_)
      refine lv_aload_n hx hb dL_law_381 rfl (lv_at hl 3 rfl) ?_
      refine lv_aload_n hx hb dL_law_382 rfl (lv_at hl 5 rfl) ?_
      refine lv_iload hx hb dL_law_383 (lv_at hl 1 rfl) ?_
      refine lv_iconst (v := 1) hx hb dL_law_385 (by decide) ?_
      refine lv_iadd hx hb dL_law_386 ?_
      rw [show (nI i) + 1 = nI (i + 1) from nI_add i 1]
      refine va_sld hx hb hX hbl hbA hS (vp_in_nI (by omega) (by omega)) dL_law_387 ?_
      rw [show (nI (i + 1)).toNatClampNeg = i + 1 from nI_clamp (by omega)]
      rw [h1]
      refine g_MVi (As := [.int (nI 1)]) (rest := []) ⟨hx, hb, hml, hown, hts⟩ (mt_X2_join_2 l dC dI cA H.size y0 q1 q2 q3 q4 q5 rn tv sf lf mn rf nf ct il gf (V2 L0 L1) 1 hW (by omega) (show 30 < L0.length + L1.length from by omega)) (cwV 1 hts gL_law_X2_join rfl rfl rfl hdX2_join ⟨Nat.le_of_ble_eq_true rfl, Nat.le_of_ble_eq_true rfl⟩) hP hK hD hS hA [9, 10, 11, 12, 13, 14] (by decide) rfl (va_recv hK hP (ci := 2) (q0 := 9) rfl rfl) rfl hl.1 rfl (Nat.le_of_ble_eq_true rfl) dL_law_388 hc1 hs1 (fun u9 => [(x0, .inr (1, [.ref r0, .ref r1, .ref r2, .ref r3, .int (nI rn)])), (r0, .inr (0, [.ref a0, .int (nI L0.length)])), (a0, .inl (cA, (100, .inl f0))), (r1, .inr (0, [.ref a1, .int (nI L1.length)])), (a1, .inl (cA, (100, .inl f1))), (r2, .inr (0, [.ref a2, .int n2])), (a2, .inl (cA, (100, .inl f2))), (r3, .inr (0, [.ref a3, .int n3])), (a3, .inl (cA, (100, .inl f3))), (y0, .inr (2, [.int 2, .int (nI rn), .ref q1, .ref q2, .int mn, .ref q3, .ref q4, .int ct, .int il, .ref q5])), (q1, .inl (cA, (2, .inl sf))), (q2, .inl (cA, (60, .inl lf))), (q3, .inl (cA, (320, .inl rf))), (q4, .inl (cA, (320, .inl nf))), (q5, .inl (cA, (6, .inl gf))), (o, .inl (cL, (1, .inr (.inl fo))))]) (fun _ => rfl) (fun _ => rfl) (fun u H locs hw_2 hP hD hS => ?_)
      have hw_2 : True := hw_2
      have hP : va_P (dC, dI) vwCl [(x0, .inr (1, [.ref r0, .ref r1, .ref r2, .ref r3, .int (nI rn)])), (r0, .inr (0, [.ref a0, .int (nI L0.length)])), (a0, .inl (cA, (100, .inl f0))), (r1, .inr (0, [.ref a1, .int (nI L1.length)])), (a1, .inl (cA, (100, .inl f1))), (r2, .inr (0, [.ref a2, .int n2])), (a2, .inl (cA, (100, .inl f2))), (r3, .inr (0, [.ref a3, .int n3])), (a3, .inl (cA, (100, .inl f3))), (y0, .inr (2, [.int 2, .int (nI rn), .ref q1, .ref q2, .int mn, .ref q3, .ref q4, .int ct, .int il, .ref q5])), (q1, .inl (cA, (2, .inl sf))), (q2, .inl (cA, (60, .inl lf))), (q3, .inl (cA, (320, .inl rf))), (q4, .inl (cA, (320, .inl nf))), (q5, .inl (cA, (6, .inl gf))), (o, .inl (cL, (1, .inr (.inl fo))))] H := hP
      have hD : va_D A [(x0, .inr (1, [.ref r0, .ref r1, .ref r2, .ref r3, .int (nI rn)])), (r0, .inr (0, [.ref a0, .int (nI L0.length)])), (a0, .inl (cA, (100, .inl f0))), (r1, .inr (0, [.ref a1, .int (nI L1.length)])), (a1, .inl (cA, (100, .inl f1))), (r2, .inr (0, [.ref a2, .int n2])), (a2, .inl (cA, (100, .inl f2))), (r3, .inr (0, [.ref a3, .int n3])), (a3, .inl (cA, (100, .inl f3))), (y0, .inr (2, [.int 2, .int (nI rn), .ref q1, .ref q2, .int mn, .ref q3, .ref q4, .int ct, .int il, .ref q5])), (q1, .inl (cA, (2, .inl sf))), (q2, .inl (cA, (60, .inl lf))), (q3, .inl (cA, (320, .inl rf))), (q4, .inl (cA, (320, .inl nf))), (q5, .inl (cA, (6, .inl gf))), (o, .inl (cL, (1, .inr (.inl fo))))] := hD
      refine lv_istore (lv' := [(6, .int 0), (5, .int 2), (4, .int (nI i)), (3, .ref o), (2, .ref y0), (1, .ref x0), (0, .ref b)]) hx hb dL_law_391 hl (by decide) rfl (fun ls hl => ?_)
      refine lv_aload_n hx hb dL_law_393 rfl (lv_at hl 4 rfl) ?_
      refine g_RVi (As := []) (rest := []) ⟨hx, hb, hml, hown, hts⟩ (mt_X2_thrown l dC dI cA H.size y0 q1 q2 q3 q4 q5 rn 2 sf lf mn rf nf ct il gf) (cwV 0 hts gL_law_X2_thrown rfl rfl rfl hdX2_thrown ⟨Nat.le_of_ble_eq_true rfl, Nat.le_of_ble_eq_true rfl⟩) hP hK hD [9, 10, 11, 12, 13, 14] (by decide) rfl (va_recv hK hP (ci := 2) (q0 := 9) rfl rfl) rfl hl.1 rfl (Nat.le_of_ble_eq_true rfl) dL_law_394 hc1 hs1 ?_
      refine lv_iload hx hb dL_law_397 (lv_at hl 1 rfl) ?_
      refine lv_icmp_eq (tgt := 404) hx hb dL_law_399 (by decide) (fun c399 => ?_) (fun c399 => ?_)
      · refine lv_iload hx hb dL_law_404 (lv_at hl 1 rfl) ?_
        refine lv_if_ne (tgt := 421) hx hb dL_law_406 (by decide) (fun c406 => ?_) (fun c406 => ?_)
        · have c406 : ¬ 2 = 0 := g_neT 2 0 (by omega) (by omega) c406
          refine lv_goto (tgt := 1241) hx hb dL_law_421 (by decide) ?_
          exact kk rn L0 L1 _ _ _ _ _ ⟨f0, f1, n2, f2, n3, f3, 2, sf, lf, mn, rf, nf, ct, il, gf, fo, hP, hD, hS, hR0, hR1, hl0, hl1, hrn, hr6, hk0, hk1, hW⟩ (by omega) (by omega) (lv_sub hl [2, 3, 4, 5, 6] rfl)
        · exact absurd c406 (by decide)
      · exact absurd (by decide) c399

set_option maxHeartbeats 4000000 in
set_option maxRecDepth 100000 in
theorem lw_op_5 {p : Program} {l : Launch} {e : Env} {s : State} {m : MethodId} {below : List Frame} {meth : Method} {c : Code} {Q : State → Prop} {b L : Nat} {xs : Nat → Int32} {dC : Nat → ClassId} {dI : Nat → Nat → Nat} {cA cL : ClassId} {A : Nat → Prop} (E : lwE p l s m c b L xs dC dI cA cL A) {x0 r0 r1 r2 r3 a0 a1 a2 a3 y0 q1 q2 q3 q4 q5 o : Nat} {i : Nat} (hi : i + 4 ≤ L) {cells slots : Nat} (hC : cells + 1 ≤ 1053) (hS9 : slots + 6 ≤ 9402) {rn : Nat} {L0 L1 : List Int32} {H : Heap} {locs : List Loc} (hI : lwI dC dI cA cL A s.heap x0 r0 r1 r2 r3 a0 a1 a2 a3 y0 q1 q2 q3 q4 q5 o rn L0 L1 H locs) {ls : Array Slot} (hl : lv_has ls 9 [(4, .int (nI i)), (3, .ref o), (2, .ref y0), (1, .ref x0), (0, .ref b)])
    (kk : ∀ (rn : Nat) (L0 L1 : List Int32) (H : Heap) (locs : List Loc) (cells1 slots1 : Nat) (ls : Array Slot), lwI dC dI cA cL A s.heap x0 r0 r1 r2 r3 a0 a1 a2 a3 y0 q1 q2 q3 q4 q5 o rn L0 L1 H locs → cells1 ≤ cells + 1 → slots1 ≤ slots + 6 → lv_has ls 9 [(4, .int (nI i)), (3, .ref o), (2, .ref y0), (1, .ref x0), (0, .ref b)] → W p l e room_1 s m #[Value.ref b] below meth c H locs cells1 slots1 Q (F0 m 1241 ls [])) :
    W p l e room_1 s m #[Value.ref b] below meth c H locs cells slots Q (F0 m 424 ls []) := by
  obtain ⟨hx, hb, hml, hown, hts, hX, hbl, hbA, hA, htr, hKl, hZ, hL2⟩ := E
  obtain ⟨f0, f1, n2, f2, n3, f3, tv, sf, lf, mn, rf, nf, ct, il, gf, fo, hP, hD, hS, hR0, hR1, hl0, hl1, hrn, hr6, hk0, hk1, hW⟩ := hI
  have hK : va_K (dC, dI) vwCl [(cA, .int)] s := hKl.sub [0] rfl
  have hok := V2_ok hk0 hk1
  have hc0 : cells ≤ room_1.cells := (show cells ≤ 1053 from by omega)
  have hs0 : slots ≤ room_1.slots := (show slots ≤ 9402 from by omega)
  have hc1 : cells + 1 ≤ room_1.cells := hC
  have hs1 : slots + 6 ≤ room_1.slots := hS9
  rcases wd_ix (xs (i + 1)) with hbad | h1 | h1
  · refine lv_aload_n hx hb dL_law_424 rfl (lv_at hl 3 rfl) ?_
    refine lv_aload_n hx hb dL_law_425 rfl (lv_at hl 4 rfl) ?_
    refine lv_iload hx hb dL_law_426 (lv_at hl 0 rfl) ?_
    refine lv_iconst (v := 1) hx hb dL_law_428 (by decide) ?_
    refine lv_iadd hx hb dL_law_429 ?_
    rw [show (nI i) + 1 = nI (i + 1) from nI_add i 1]
    refine va_sld hx hb hX hbl hbA hS (vp_in_nI (by omega) (by omega)) dL_law_430 ?_
    rw [show (nI (i + 1)).toNatClampNeg = i + 1 from nI_clamp (by omega)]
    refine lv_aload_n hx hb dL_law_431 rfl (lv_at hl 4 rfl) ?_
    refine lv_iload hx hb dL_law_432 (lv_at hl 0 rfl) ?_
    refine lv_iconst (v := 2) hx hb dL_law_434 (by decide) ?_
    refine lv_iadd hx hb dL_law_435 ?_
    rw [show (nI i) + 2 = nI (i + 2) from nI_add i 2]
    refine va_sld hx hb hX hbl hbA hS (vp_in_nI (by omega) (by omega)) dL_law_436 ?_
    rw [show (nI (i + 2)).toNatClampNeg = i + 2 from nI_clamp (by omega)]
    refine lv_aload_n hx hb dL_law_437 rfl (lv_at hl 1 rfl) ?_
    refine g_LS (As := [.ref x0, .int (xs (i + 1)), .int (xs (i + 2)), .ref o]) (rest := []) ⟨hx, hb, hml, hown, hts⟩ (mt_L_swap_1 l htr dC dI cA cL H.size x0 (xs (i + 1)) (xs (i + 2)) r0 r1 r2 r3 (nI rn) o fo hbad) (vx_cwSW 4 hts gL_law_L_swap rfl rfl rfl hdL_swap ⟨Nat.le_of_ble_eq_true rfl, Nat.le_of_ble_eq_true rfl⟩) hP hKl hD hS hA hZ [0, 15] (by decide) rfl rfl hl.1 rfl (Nat.le_of_ble_eq_true rfl) dL_law_438 hc1 hs1 (fun u9 => [(x0, .inr (1, [.ref r0, .ref r1, .ref r2, .ref r3, .int (nI rn)])), (r0, .inr (0, [.ref a0, .int (nI L0.length)])), (a0, .inl (cA, (100, .inl f0))), (r1, .inr (0, [.ref a1, .int (nI L1.length)])), (a1, .inl (cA, (100, .inl f1))), (r2, .inr (0, [.ref a2, .int n2])), (a2, .inl (cA, (100, .inl f2))), (r3, .inr (0, [.ref a3, .int n3])), (a3, .inl (cA, (100, .inl f3))), (y0, .inr (2, [.int tv, .int (nI rn), .ref q1, .ref q2, .int mn, .ref q3, .ref q4, .int ct, .int il, .ref q5])), (q1, .inl (cA, (2, .inl sf))), (q2, .inl (cA, (60, .inl lf))), (q3, .inl (cA, (320, .inl rf))), (q4, .inl (cA, (320, .inl nf))), (q5, .inl (cA, (6, .inl gf))), (o, .inl (cL, (1, .inr (.inl fo))))]) (fun _ => rfl) (fun _ => rfl) (fun u H locs hw_1 hP hD hS => ?_)
    have hP : va_P (dC, dI) vwCl [(x0, .inr (1, [.ref r0, .ref r1, .ref r2, .ref r3, .int (nI rn)])), (r0, .inr (0, [.ref a0, .int (nI L0.length)])), (a0, .inl (cA, (100, .inl f0))), (r1, .inr (0, [.ref a1, .int (nI L1.length)])), (a1, .inl (cA, (100, .inl f1))), (r2, .inr (0, [.ref a2, .int n2])), (a2, .inl (cA, (100, .inl f2))), (r3, .inr (0, [.ref a3, .int n3])), (a3, .inl (cA, (100, .inl f3))), (y0, .inr (2, [.int tv, .int (nI rn), .ref q1, .ref q2, .int mn, .ref q3, .ref q4, .int ct, .int il, .ref q5])), (q1, .inl (cA, (2, .inl sf))), (q2, .inl (cA, (60, .inl lf))), (q3, .inl (cA, (320, .inl rf))), (q4, .inl (cA, (320, .inl nf))), (q5, .inl (cA, (6, .inl gf))), (o, .inl (cL, (1, .inr (.inl fo))))] H := hP
    have hD : va_D A [(x0, .inr (1, [.ref r0, .ref r1, .ref r2, .ref r3, .int (nI rn)])), (r0, .inr (0, [.ref a0, .int (nI L0.length)])), (a0, .inl (cA, (100, .inl f0))), (r1, .inr (0, [.ref a1, .int (nI L1.length)])), (a1, .inl (cA, (100, .inl f1))), (r2, .inr (0, [.ref a2, .int n2])), (a2, .inl (cA, (100, .inl f2))), (r3, .inr (0, [.ref a3, .int n3])), (a3, .inl (cA, (100, .inl f3))), (y0, .inr (2, [.int tv, .int (nI rn), .ref q1, .ref q2, .int mn, .ref q3, .ref q4, .int ct, .int il, .ref q5])), (q1, .inl (cA, (2, .inl sf))), (q2, .inl (cA, (60, .inl lf))), (q3, .inl (cA, (320, .inl rf))), (q4, .inl (cA, (320, .inl nf))), (q5, .inl (cA, (6, .inl gf))), (o, .inl (cL, (1, .inr (.inl fo))))] := hD
    refine lv_istore (lv' := [(5, .int 1), (4, .int (nI i)), (3, .ref o), (2, .ref y0), (1, .ref x0), (0, .ref b)]) hx hb dL_law_441 hl (by decide) rfl (fun ls hl => ?_)
    refine lv_aload_n hx hb dL_law_443 rfl (lv_at hl 3 rfl) ?_
    refine lv_aload_n hx hb dL_law_444 rfl (lv_at hl 5 rfl) ?_
    refine lv_iload hx hb dL_law_445 (lv_at hl 1 rfl) ?_
    refine lv_iconst (v := 1) hx hb dL_law_447 (by decide) ?_
    refine lv_iadd hx hb dL_law_448 ?_
    rw [show (nI i) + 1 = nI (i + 1) from nI_add i 1]
    refine va_sld hx hb hX hbl hbA hS (vp_in_nI (by omega) (by omega)) dL_law_449 ?_
    rw [show (nI (i + 1)).toNatClampNeg = i + 1 from nI_clamp (by omega)]
    refine lv_aload_n hx hb dL_law_450 rfl (lv_at hl 5 rfl) ?_
    refine lv_iload hx hb dL_law_451 (lv_at hl 1 rfl) ?_
    refine lv_iconst (v := 2) hx hb dL_law_453 (by decide) ?_
    refine lv_iadd hx hb dL_law_454 ?_
    rw [show (nI i) + 2 = nI (i + 2) from nI_add i 2]
    refine va_sld hx hb hX hbl hbA hS (vp_in_nI (by omega) (by omega)) dL_law_455 ?_
    rw [show (nI (i + 2)).toNatClampNeg = i + 2 from nI_clamp (by omega)]
    refine g_MVi (As := [.int (xs (i + 1)), .int (xs (i + 2))]) (rest := []) ⟨hx, hb, hml, hown, hts⟩ (mt_X2_swap_1 l dC dI cA H.size y0 q1 q2 q3 q4 q5 rn tv sf lf mn rf nf ct il gf (xs (i + 1)) (xs (i + 2)) hbad) (cwV 2 hts gL_law_X2_swap rfl rfl rfl hdX2_swap ⟨Nat.le_of_ble_eq_true rfl, Nat.le_of_ble_eq_true rfl⟩) hP hK hD hS hA [9, 10, 11, 12, 13, 14] (by decide) rfl (va_recv hK hP (ci := 2) (q0 := 9) rfl rfl) rfl hl.1 rfl (Nat.le_of_ble_eq_true rfl) dL_law_456 hc1 hs1 (fun u9 => [(x0, .inr (1, [.ref r0, .ref r1, .ref r2, .ref r3, .int (nI rn)])), (r0, .inr (0, [.ref a0, .int (nI L0.length)])), (a0, .inl (cA, (100, .inl f0))), (r1, .inr (0, [.ref a1, .int (nI L1.length)])), (a1, .inl (cA, (100, .inl f1))), (r2, .inr (0, [.ref a2, .int n2])), (a2, .inl (cA, (100, .inl f2))), (r3, .inr (0, [.ref a3, .int n3])), (a3, .inl (cA, (100, .inl f3))), (y0, .inr (2, [.int 1, .int (nI rn), .ref q1, .ref q2, .int mn, .ref q3, .ref q4, .int ct, .int il, .ref q5])), (q1, .inl (cA, (2, .inl sf))), (q2, .inl (cA, (60, .inl lf))), (q3, .inl (cA, (320, .inl rf))), (q4, .inl (cA, (320, .inl nf))), (q5, .inl (cA, (6, .inl gf))), (o, .inl (cL, (1, .inr (.inl fo))))]) (fun _ => rfl) (fun _ => rfl) (fun u H locs hw_2 hP hD hS => ?_)
    have hw_2 : True := hw_2
    have hP : va_P (dC, dI) vwCl [(x0, .inr (1, [.ref r0, .ref r1, .ref r2, .ref r3, .int (nI rn)])), (r0, .inr (0, [.ref a0, .int (nI L0.length)])), (a0, .inl (cA, (100, .inl f0))), (r1, .inr (0, [.ref a1, .int (nI L1.length)])), (a1, .inl (cA, (100, .inl f1))), (r2, .inr (0, [.ref a2, .int n2])), (a2, .inl (cA, (100, .inl f2))), (r3, .inr (0, [.ref a3, .int n3])), (a3, .inl (cA, (100, .inl f3))), (y0, .inr (2, [.int 1, .int (nI rn), .ref q1, .ref q2, .int mn, .ref q3, .ref q4, .int ct, .int il, .ref q5])), (q1, .inl (cA, (2, .inl sf))), (q2, .inl (cA, (60, .inl lf))), (q3, .inl (cA, (320, .inl rf))), (q4, .inl (cA, (320, .inl nf))), (q5, .inl (cA, (6, .inl gf))), (o, .inl (cL, (1, .inr (.inl fo))))] H := hP
    have hD : va_D A [(x0, .inr (1, [.ref r0, .ref r1, .ref r2, .ref r3, .int (nI rn)])), (r0, .inr (0, [.ref a0, .int (nI L0.length)])), (a0, .inl (cA, (100, .inl f0))), (r1, .inr (0, [.ref a1, .int (nI L1.length)])), (a1, .inl (cA, (100, .inl f1))), (r2, .inr (0, [.ref a2, .int n2])), (a2, .inl (cA, (100, .inl f2))), (r3, .inr (0, [.ref a3, .int n3])), (a3, .inl (cA, (100, .inl f3))), (y0, .inr (2, [.int 1, .int (nI rn), .ref q1, .ref q2, .int mn, .ref q3, .ref q4, .int ct, .int il, .ref q5])), (q1, .inl (cA, (2, .inl sf))), (q2, .inl (cA, (60, .inl lf))), (q3, .inl (cA, (320, .inl rf))), (q4, .inl (cA, (320, .inl nf))), (q5, .inl (cA, (6, .inl gf))), (o, .inl (cL, (1, .inr (.inl fo))))] := hD
    refine lv_istore (lv' := [(6, .int 0), (5, .int 1), (4, .int (nI i)), (3, .ref o), (2, .ref y0), (1, .ref x0), (0, .ref b)]) hx hb dL_law_459 hl (by decide) rfl (fun ls hl => ?_)
    refine lv_aload_n hx hb dL_law_461 rfl (lv_at hl 4 rfl) ?_
    refine g_RVi (As := []) (rest := []) ⟨hx, hb, hml, hown, hts⟩ (mt_X2_thrown l dC dI cA H.size y0 q1 q2 q3 q4 q5 rn 1 sf lf mn rf nf ct il gf) (cwV 0 hts gL_law_X2_thrown rfl rfl rfl hdX2_thrown ⟨Nat.le_of_ble_eq_true rfl, Nat.le_of_ble_eq_true rfl⟩) hP hK hD [9, 10, 11, 12, 13, 14] (by decide) rfl (va_recv hK hP (ci := 2) (q0 := 9) rfl rfl) rfl hl.1 rfl (Nat.le_of_ble_eq_true rfl) dL_law_462 hc1 hs1 ?_
    refine lv_iload hx hb dL_law_465 (lv_at hl 1 rfl) ?_
    refine lv_icmp_eq (tgt := 472) hx hb dL_law_467 (by decide) (fun c467 => ?_) (fun c467 => ?_)
    · refine lv_iload hx hb dL_law_472 (lv_at hl 1 rfl) ?_
      refine lv_if_ne (tgt := 489) hx hb dL_law_474 (by decide) (fun c474 => ?_) (fun c474 => ?_)
      · have c474 : ¬ 1 = 0 := g_neT 1 0 (by omega) (by omega) c474
        refine lv_goto (tgt := 1241) hx hb dL_law_489 (by decide) ?_
        exact kk rn L0 L1 _ _ _ _ _ ⟨f0, f1, n2, f2, n3, f3, 1, sf, lf, mn, rf, nf, ct, il, gf, fo, hP, hD, hS, hR0, hR1, hl0, hl1, hrn, hr6, hk0, hk1, hW⟩ (by omega) (by omega) (lv_sub hl [2, 3, 4, 5, 6] rfl)
      · exact absurd c474 (by decide)
    · exact absurd (by decide) c467
  · rcases pk_ix (xs (i + 2)) (n := L0.length - 1) (by omega) with hbad | hbad | ⟨k, hk9, h2⟩
    · refine lv_aload_n hx hb dL_law_424 rfl (lv_at hl 3 rfl) ?_
      refine lv_aload_n hx hb dL_law_425 rfl (lv_at hl 4 rfl) ?_
      refine lv_iload hx hb dL_law_426 (lv_at hl 0 rfl) ?_
      refine lv_iconst (v := 1) hx hb dL_law_428 (by decide) ?_
      refine lv_iadd hx hb dL_law_429 ?_
      rw [show (nI i) + 1 = nI (i + 1) from nI_add i 1]
      refine va_sld hx hb hX hbl hbA hS (vp_in_nI (by omega) (by omega)) dL_law_430 ?_
      rw [show (nI (i + 1)).toNatClampNeg = i + 1 from nI_clamp (by omega)]
      rw [h1]
      refine lv_aload_n hx hb dL_law_431 rfl (lv_at hl 4 rfl) ?_
      refine lv_iload hx hb dL_law_432 (lv_at hl 0 rfl) ?_
      refine lv_iconst (v := 2) hx hb dL_law_434 (by decide) ?_
      refine lv_iadd hx hb dL_law_435 ?_
      rw [show (nI i) + 2 = nI (i + 2) from nI_add i 2]
      refine va_sld hx hb hX hbl hbA hS (vp_in_nI (by omega) (by omega)) dL_law_436 ?_
      rw [show (nI (i + 2)).toNatClampNeg = i + 2 from nI_clamp (by omega)]
      refine lv_aload_n hx hb dL_law_437 rfl (lv_at hl 1 rfl) ?_
      refine g_LS (As := [.ref x0, .int (nI 0), .int (xs (i + 2)), .ref o]) (rest := []) ⟨hx, hb, hml, hown, hts⟩ (mt_L_swap_1b_0 l htr dC dI cA cL H.size x0 r0 r1 r2 r3 rn a0 L0 f0 (xs (i + 2)) o fo hR0 (pl_bad hl0 (Or.inl hbad))) (vx_cwSW 4 hts gL_law_L_swap rfl rfl rfl hdL_swap ⟨Nat.le_of_ble_eq_true rfl, Nat.le_of_ble_eq_true rfl⟩) hP hKl hD hS hA hZ [0, 1, 2, 15] (by decide) rfl rfl hl.1 rfl (Nat.le_of_ble_eq_true rfl) dL_law_438 hc1 hs1 (fun u9 => [(x0, .inr (1, [.ref r0, .ref r1, .ref r2, .ref r3, .int (nI rn)])), (r0, .inr (0, [.ref a0, .int (nI L0.length)])), (a0, .inl (cA, (100, .inl f0))), (r1, .inr (0, [.ref a1, .int (nI L1.length)])), (a1, .inl (cA, (100, .inl f1))), (r2, .inr (0, [.ref a2, .int n2])), (a2, .inl (cA, (100, .inl f2))), (r3, .inr (0, [.ref a3, .int n3])), (a3, .inl (cA, (100, .inl f3))), (y0, .inr (2, [.int tv, .int (nI rn), .ref q1, .ref q2, .int mn, .ref q3, .ref q4, .int ct, .int il, .ref q5])), (q1, .inl (cA, (2, .inl sf))), (q2, .inl (cA, (60, .inl lf))), (q3, .inl (cA, (320, .inl rf))), (q4, .inl (cA, (320, .inl nf))), (q5, .inl (cA, (6, .inl gf))), (o, .inl (cL, (1, .inr (.inl fo))))]) (fun _ => rfl) (fun _ => rfl) (fun u H locs hw_1 hP hD hS => ?_)
      have hP : va_P (dC, dI) vwCl [(x0, .inr (1, [.ref r0, .ref r1, .ref r2, .ref r3, .int (nI rn)])), (r0, .inr (0, [.ref a0, .int (nI L0.length)])), (a0, .inl (cA, (100, .inl f0))), (r1, .inr (0, [.ref a1, .int (nI L1.length)])), (a1, .inl (cA, (100, .inl f1))), (r2, .inr (0, [.ref a2, .int n2])), (a2, .inl (cA, (100, .inl f2))), (r3, .inr (0, [.ref a3, .int n3])), (a3, .inl (cA, (100, .inl f3))), (y0, .inr (2, [.int tv, .int (nI rn), .ref q1, .ref q2, .int mn, .ref q3, .ref q4, .int ct, .int il, .ref q5])), (q1, .inl (cA, (2, .inl sf))), (q2, .inl (cA, (60, .inl lf))), (q3, .inl (cA, (320, .inl rf))), (q4, .inl (cA, (320, .inl nf))), (q5, .inl (cA, (6, .inl gf))), (o, .inl (cL, (1, .inr (.inl fo))))] H := hP
      have hD : va_D A [(x0, .inr (1, [.ref r0, .ref r1, .ref r2, .ref r3, .int (nI rn)])), (r0, .inr (0, [.ref a0, .int (nI L0.length)])), (a0, .inl (cA, (100, .inl f0))), (r1, .inr (0, [.ref a1, .int (nI L1.length)])), (a1, .inl (cA, (100, .inl f1))), (r2, .inr (0, [.ref a2, .int n2])), (a2, .inl (cA, (100, .inl f2))), (r3, .inr (0, [.ref a3, .int n3])), (a3, .inl (cA, (100, .inl f3))), (y0, .inr (2, [.int tv, .int (nI rn), .ref q1, .ref q2, .int mn, .ref q3, .ref q4, .int ct, .int il, .ref q5])), (q1, .inl (cA, (2, .inl sf))), (q2, .inl (cA, (60, .inl lf))), (q3, .inl (cA, (320, .inl rf))), (q4, .inl (cA, (320, .inl nf))), (q5, .inl (cA, (6, .inl gf))), (o, .inl (cL, (1, .inr (.inl fo))))] := hD
      refine lv_istore (lv' := [(5, .int 1), (4, .int (nI i)), (3, .ref o), (2, .ref y0), (1, .ref x0), (0, .ref b)]) hx hb dL_law_441 hl (by decide) rfl (fun ls hl => ?_)
      refine lv_aload_n hx hb dL_law_443 rfl (lv_at hl 3 rfl) ?_
      refine lv_aload_n hx hb dL_law_444 rfl (lv_at hl 5 rfl) ?_
      refine lv_iload hx hb dL_law_445 (lv_at hl 1 rfl) ?_
      refine lv_iconst (v := 1) hx hb dL_law_447 (by decide) ?_
      refine lv_iadd hx hb dL_law_448 ?_
      rw [show (nI i) + 1 = nI (i + 1) from nI_add i 1]
      refine va_sld hx hb hX hbl hbA hS (vp_in_nI (by omega) (by omega)) dL_law_449 ?_
      rw [show (nI (i + 1)).toNatClampNeg = i + 1 from nI_clamp (by omega)]
      rw [h1]
      refine lv_aload_n hx hb dL_law_450 rfl (lv_at hl 5 rfl) ?_
      refine lv_iload hx hb dL_law_451 (lv_at hl 1 rfl) ?_
      refine lv_iconst (v := 2) hx hb dL_law_453 (by decide) ?_
      refine lv_iadd hx hb dL_law_454 ?_
      rw [show (nI i) + 2 = nI (i + 2) from nI_add i 2]
      refine va_sld hx hb hX hbl hbA hS (vp_in_nI (by omega) (by omega)) dL_law_455 ?_
      rw [show (nI (i + 2)).toNatClampNeg = i + 2 from nI_clamp (by omega)]
      refine g_MVi (As := [.int (nI 0), .int (xs (i + 2))]) (rest := []) ⟨hx, hb, hml, hown, hts⟩ (mt_X2_swap_1b l dC dI cA H.size y0 q1 q2 q3 q4 q5 rn tv sf lf mn rf nf ct il gf (V2 L0 L1) 0 (xs (i + 2)) hW (by omega) (Or.inl hbad)) (cwV 2 hts gL_law_X2_swap rfl rfl rfl hdX2_swap ⟨Nat.le_of_ble_eq_true rfl, Nat.le_of_ble_eq_true rfl⟩) hP hK hD hS hA [9, 10, 11, 12, 13, 14] (by decide) rfl (va_recv hK hP (ci := 2) (q0 := 9) rfl rfl) rfl hl.1 rfl (Nat.le_of_ble_eq_true rfl) dL_law_456 hc1 hs1 (fun u9 => [(x0, .inr (1, [.ref r0, .ref r1, .ref r2, .ref r3, .int (nI rn)])), (r0, .inr (0, [.ref a0, .int (nI L0.length)])), (a0, .inl (cA, (100, .inl f0))), (r1, .inr (0, [.ref a1, .int (nI L1.length)])), (a1, .inl (cA, (100, .inl f1))), (r2, .inr (0, [.ref a2, .int n2])), (a2, .inl (cA, (100, .inl f2))), (r3, .inr (0, [.ref a3, .int n3])), (a3, .inl (cA, (100, .inl f3))), (y0, .inr (2, [.int 1, .int (nI rn), .ref q1, .ref q2, .int mn, .ref q3, .ref q4, .int ct, .int il, .ref q5])), (q1, .inl (cA, (2, .inl sf))), (q2, .inl (cA, (60, .inl lf))), (q3, .inl (cA, (320, .inl rf))), (q4, .inl (cA, (320, .inl nf))), (q5, .inl (cA, (6, .inl gf))), (o, .inl (cL, (1, .inr (.inl fo))))]) (fun _ => rfl) (fun _ => rfl) (fun u H locs hw_2 hP hD hS => ?_)
      have hw_2 : True := hw_2
      have hP : va_P (dC, dI) vwCl [(x0, .inr (1, [.ref r0, .ref r1, .ref r2, .ref r3, .int (nI rn)])), (r0, .inr (0, [.ref a0, .int (nI L0.length)])), (a0, .inl (cA, (100, .inl f0))), (r1, .inr (0, [.ref a1, .int (nI L1.length)])), (a1, .inl (cA, (100, .inl f1))), (r2, .inr (0, [.ref a2, .int n2])), (a2, .inl (cA, (100, .inl f2))), (r3, .inr (0, [.ref a3, .int n3])), (a3, .inl (cA, (100, .inl f3))), (y0, .inr (2, [.int 1, .int (nI rn), .ref q1, .ref q2, .int mn, .ref q3, .ref q4, .int ct, .int il, .ref q5])), (q1, .inl (cA, (2, .inl sf))), (q2, .inl (cA, (60, .inl lf))), (q3, .inl (cA, (320, .inl rf))), (q4, .inl (cA, (320, .inl nf))), (q5, .inl (cA, (6, .inl gf))), (o, .inl (cL, (1, .inr (.inl fo))))] H := hP
      have hD : va_D A [(x0, .inr (1, [.ref r0, .ref r1, .ref r2, .ref r3, .int (nI rn)])), (r0, .inr (0, [.ref a0, .int (nI L0.length)])), (a0, .inl (cA, (100, .inl f0))), (r1, .inr (0, [.ref a1, .int (nI L1.length)])), (a1, .inl (cA, (100, .inl f1))), (r2, .inr (0, [.ref a2, .int n2])), (a2, .inl (cA, (100, .inl f2))), (r3, .inr (0, [.ref a3, .int n3])), (a3, .inl (cA, (100, .inl f3))), (y0, .inr (2, [.int 1, .int (nI rn), .ref q1, .ref q2, .int mn, .ref q3, .ref q4, .int ct, .int il, .ref q5])), (q1, .inl (cA, (2, .inl sf))), (q2, .inl (cA, (60, .inl lf))), (q3, .inl (cA, (320, .inl rf))), (q4, .inl (cA, (320, .inl nf))), (q5, .inl (cA, (6, .inl gf))), (o, .inl (cL, (1, .inr (.inl fo))))] := hD
      refine lv_istore (lv' := [(6, .int 0), (5, .int 1), (4, .int (nI i)), (3, .ref o), (2, .ref y0), (1, .ref x0), (0, .ref b)]) hx hb dL_law_459 hl (by decide) rfl (fun ls hl => ?_)
      refine lv_aload_n hx hb dL_law_461 rfl (lv_at hl 4 rfl) ?_
      refine g_RVi (As := []) (rest := []) ⟨hx, hb, hml, hown, hts⟩ (mt_X2_thrown l dC dI cA H.size y0 q1 q2 q3 q4 q5 rn 1 sf lf mn rf nf ct il gf) (cwV 0 hts gL_law_X2_thrown rfl rfl rfl hdX2_thrown ⟨Nat.le_of_ble_eq_true rfl, Nat.le_of_ble_eq_true rfl⟩) hP hK hD [9, 10, 11, 12, 13, 14] (by decide) rfl (va_recv hK hP (ci := 2) (q0 := 9) rfl rfl) rfl hl.1 rfl (Nat.le_of_ble_eq_true rfl) dL_law_462 hc1 hs1 ?_
      refine lv_iload hx hb dL_law_465 (lv_at hl 1 rfl) ?_
      refine lv_icmp_eq (tgt := 472) hx hb dL_law_467 (by decide) (fun c467 => ?_) (fun c467 => ?_)
      · refine lv_iload hx hb dL_law_472 (lv_at hl 1 rfl) ?_
        refine lv_if_ne (tgt := 489) hx hb dL_law_474 (by decide) (fun c474 => ?_) (fun c474 => ?_)
        · have c474 : ¬ 1 = 0 := g_neT 1 0 (by omega) (by omega) c474
          refine lv_goto (tgt := 1241) hx hb dL_law_489 (by decide) ?_
          exact kk rn L0 L1 _ _ _ _ _ ⟨f0, f1, n2, f2, n3, f3, 1, sf, lf, mn, rf, nf, ct, il, gf, fo, hP, hD, hS, hR0, hR1, hl0, hl1, hrn, hr6, hk0, hk1, hW⟩ (by omega) (by omega) (lv_sub hl [2, 3, 4, 5, 6] rfl)
        · exact absurd c474 (by decide)
      · exact absurd (by decide) c467
    · refine lv_aload_n hx hb dL_law_424 rfl (lv_at hl 3 rfl) ?_
      refine lv_aload_n hx hb dL_law_425 rfl (lv_at hl 4 rfl) ?_
      refine lv_iload hx hb dL_law_426 (lv_at hl 0 rfl) ?_
      refine lv_iconst (v := 1) hx hb dL_law_428 (by decide) ?_
      refine lv_iadd hx hb dL_law_429 ?_
      rw [show (nI i) + 1 = nI (i + 1) from nI_add i 1]
      refine va_sld hx hb hX hbl hbA hS (vp_in_nI (by omega) (by omega)) dL_law_430 ?_
      rw [show (nI (i + 1)).toNatClampNeg = i + 1 from nI_clamp (by omega)]
      rw [h1]
      refine lv_aload_n hx hb dL_law_431 rfl (lv_at hl 4 rfl) ?_
      refine lv_iload hx hb dL_law_432 (lv_at hl 0 rfl) ?_
      refine lv_iconst (v := 2) hx hb dL_law_434 (by decide) ?_
      refine lv_iadd hx hb dL_law_435 ?_
      rw [show (nI i) + 2 = nI (i + 2) from nI_add i 2]
      refine va_sld hx hb hX hbl hbA hS (vp_in_nI (by omega) (by omega)) dL_law_436 ?_
      rw [show (nI (i + 2)).toNatClampNeg = i + 2 from nI_clamp (by omega)]
      refine lv_aload_n hx hb dL_law_437 rfl (lv_at hl 1 rfl) ?_
      refine g_LS (As := [.ref x0, .int (nI 0), .int (xs (i + 2)), .ref o]) (rest := []) ⟨hx, hb, hml, hown, hts⟩ (mt_L_swap_1b_0 l htr dC dI cA cL H.size x0 r0 r1 r2 r3 rn a0 L0 f0 (xs (i + 2)) o fo hR0 (pl_bad hl0 (Or.inr hbad))) (vx_cwSW 4 hts gL_law_L_swap rfl rfl rfl hdL_swap ⟨Nat.le_of_ble_eq_true rfl, Nat.le_of_ble_eq_true rfl⟩) hP hKl hD hS hA hZ [0, 1, 2, 15] (by decide) rfl rfl hl.1 rfl (Nat.le_of_ble_eq_true rfl) dL_law_438 hc1 hs1 (fun u9 => [(x0, .inr (1, [.ref r0, .ref r1, .ref r2, .ref r3, .int (nI rn)])), (r0, .inr (0, [.ref a0, .int (nI L0.length)])), (a0, .inl (cA, (100, .inl f0))), (r1, .inr (0, [.ref a1, .int (nI L1.length)])), (a1, .inl (cA, (100, .inl f1))), (r2, .inr (0, [.ref a2, .int n2])), (a2, .inl (cA, (100, .inl f2))), (r3, .inr (0, [.ref a3, .int n3])), (a3, .inl (cA, (100, .inl f3))), (y0, .inr (2, [.int tv, .int (nI rn), .ref q1, .ref q2, .int mn, .ref q3, .ref q4, .int ct, .int il, .ref q5])), (q1, .inl (cA, (2, .inl sf))), (q2, .inl (cA, (60, .inl lf))), (q3, .inl (cA, (320, .inl rf))), (q4, .inl (cA, (320, .inl nf))), (q5, .inl (cA, (6, .inl gf))), (o, .inl (cL, (1, .inr (.inl fo))))]) (fun _ => rfl) (fun _ => rfl) (fun u H locs hw_1 hP hD hS => ?_)
      have hP : va_P (dC, dI) vwCl [(x0, .inr (1, [.ref r0, .ref r1, .ref r2, .ref r3, .int (nI rn)])), (r0, .inr (0, [.ref a0, .int (nI L0.length)])), (a0, .inl (cA, (100, .inl f0))), (r1, .inr (0, [.ref a1, .int (nI L1.length)])), (a1, .inl (cA, (100, .inl f1))), (r2, .inr (0, [.ref a2, .int n2])), (a2, .inl (cA, (100, .inl f2))), (r3, .inr (0, [.ref a3, .int n3])), (a3, .inl (cA, (100, .inl f3))), (y0, .inr (2, [.int tv, .int (nI rn), .ref q1, .ref q2, .int mn, .ref q3, .ref q4, .int ct, .int il, .ref q5])), (q1, .inl (cA, (2, .inl sf))), (q2, .inl (cA, (60, .inl lf))), (q3, .inl (cA, (320, .inl rf))), (q4, .inl (cA, (320, .inl nf))), (q5, .inl (cA, (6, .inl gf))), (o, .inl (cL, (1, .inr (.inl fo))))] H := hP
      have hD : va_D A [(x0, .inr (1, [.ref r0, .ref r1, .ref r2, .ref r3, .int (nI rn)])), (r0, .inr (0, [.ref a0, .int (nI L0.length)])), (a0, .inl (cA, (100, .inl f0))), (r1, .inr (0, [.ref a1, .int (nI L1.length)])), (a1, .inl (cA, (100, .inl f1))), (r2, .inr (0, [.ref a2, .int n2])), (a2, .inl (cA, (100, .inl f2))), (r3, .inr (0, [.ref a3, .int n3])), (a3, .inl (cA, (100, .inl f3))), (y0, .inr (2, [.int tv, .int (nI rn), .ref q1, .ref q2, .int mn, .ref q3, .ref q4, .int ct, .int il, .ref q5])), (q1, .inl (cA, (2, .inl sf))), (q2, .inl (cA, (60, .inl lf))), (q3, .inl (cA, (320, .inl rf))), (q4, .inl (cA, (320, .inl nf))), (q5, .inl (cA, (6, .inl gf))), (o, .inl (cL, (1, .inr (.inl fo))))] := hD
      refine lv_istore (lv' := [(5, .int 1), (4, .int (nI i)), (3, .ref o), (2, .ref y0), (1, .ref x0), (0, .ref b)]) hx hb dL_law_441 hl (by decide) rfl (fun ls hl => ?_)
      refine lv_aload_n hx hb dL_law_443 rfl (lv_at hl 3 rfl) ?_
      refine lv_aload_n hx hb dL_law_444 rfl (lv_at hl 5 rfl) ?_
      refine lv_iload hx hb dL_law_445 (lv_at hl 1 rfl) ?_
      refine lv_iconst (v := 1) hx hb dL_law_447 (by decide) ?_
      refine lv_iadd hx hb dL_law_448 ?_
      rw [show (nI i) + 1 = nI (i + 1) from nI_add i 1]
      refine va_sld hx hb hX hbl hbA hS (vp_in_nI (by omega) (by omega)) dL_law_449 ?_
      rw [show (nI (i + 1)).toNatClampNeg = i + 1 from nI_clamp (by omega)]
      rw [h1]
      refine lv_aload_n hx hb dL_law_450 rfl (lv_at hl 5 rfl) ?_
      refine lv_iload hx hb dL_law_451 (lv_at hl 1 rfl) ?_
      refine lv_iconst (v := 2) hx hb dL_law_453 (by decide) ?_
      refine lv_iadd hx hb dL_law_454 ?_
      rw [show (nI i) + 2 = nI (i + 2) from nI_add i 2]
      refine va_sld hx hb hX hbl hbA hS (vp_in_nI (by omega) (by omega)) dL_law_455 ?_
      rw [show (nI (i + 2)).toNatClampNeg = i + 2 from nI_clamp (by omega)]
      refine g_MVi (As := [.int (nI 0), .int (xs (i + 2))]) (rest := []) ⟨hx, hb, hml, hown, hts⟩ (mt_X2_swap_1b l dC dI cA H.size y0 q1 q2 q3 q4 q5 rn tv sf lf mn rf nf ct il gf (V2 L0 L1) 0 (xs (i + 2)) hW (by omega) (Or.inr hbad)) (cwV 2 hts gL_law_X2_swap rfl rfl rfl hdX2_swap ⟨Nat.le_of_ble_eq_true rfl, Nat.le_of_ble_eq_true rfl⟩) hP hK hD hS hA [9, 10, 11, 12, 13, 14] (by decide) rfl (va_recv hK hP (ci := 2) (q0 := 9) rfl rfl) rfl hl.1 rfl (Nat.le_of_ble_eq_true rfl) dL_law_456 hc1 hs1 (fun u9 => [(x0, .inr (1, [.ref r0, .ref r1, .ref r2, .ref r3, .int (nI rn)])), (r0, .inr (0, [.ref a0, .int (nI L0.length)])), (a0, .inl (cA, (100, .inl f0))), (r1, .inr (0, [.ref a1, .int (nI L1.length)])), (a1, .inl (cA, (100, .inl f1))), (r2, .inr (0, [.ref a2, .int n2])), (a2, .inl (cA, (100, .inl f2))), (r3, .inr (0, [.ref a3, .int n3])), (a3, .inl (cA, (100, .inl f3))), (y0, .inr (2, [.int 1, .int (nI rn), .ref q1, .ref q2, .int mn, .ref q3, .ref q4, .int ct, .int il, .ref q5])), (q1, .inl (cA, (2, .inl sf))), (q2, .inl (cA, (60, .inl lf))), (q3, .inl (cA, (320, .inl rf))), (q4, .inl (cA, (320, .inl nf))), (q5, .inl (cA, (6, .inl gf))), (o, .inl (cL, (1, .inr (.inl fo))))]) (fun _ => rfl) (fun _ => rfl) (fun u H locs hw_2 hP hD hS => ?_)
      have hw_2 : True := hw_2
      have hP : va_P (dC, dI) vwCl [(x0, .inr (1, [.ref r0, .ref r1, .ref r2, .ref r3, .int (nI rn)])), (r0, .inr (0, [.ref a0, .int (nI L0.length)])), (a0, .inl (cA, (100, .inl f0))), (r1, .inr (0, [.ref a1, .int (nI L1.length)])), (a1, .inl (cA, (100, .inl f1))), (r2, .inr (0, [.ref a2, .int n2])), (a2, .inl (cA, (100, .inl f2))), (r3, .inr (0, [.ref a3, .int n3])), (a3, .inl (cA, (100, .inl f3))), (y0, .inr (2, [.int 1, .int (nI rn), .ref q1, .ref q2, .int mn, .ref q3, .ref q4, .int ct, .int il, .ref q5])), (q1, .inl (cA, (2, .inl sf))), (q2, .inl (cA, (60, .inl lf))), (q3, .inl (cA, (320, .inl rf))), (q4, .inl (cA, (320, .inl nf))), (q5, .inl (cA, (6, .inl gf))), (o, .inl (cL, (1, .inr (.inl fo))))] H := hP
      have hD : va_D A [(x0, .inr (1, [.ref r0, .ref r1, .ref r2, .ref r3, .int (nI rn)])), (r0, .inr (0, [.ref a0, .int (nI L0.length)])), (a0, .inl (cA, (100, .inl f0))), (r1, .inr (0, [.ref a1, .int (nI L1.length)])), (a1, .inl (cA, (100, .inl f1))), (r2, .inr (0, [.ref a2, .int n2])), (a2, .inl (cA, (100, .inl f2))), (r3, .inr (0, [.ref a3, .int n3])), (a3, .inl (cA, (100, .inl f3))), (y0, .inr (2, [.int 1, .int (nI rn), .ref q1, .ref q2, .int mn, .ref q3, .ref q4, .int ct, .int il, .ref q5])), (q1, .inl (cA, (2, .inl sf))), (q2, .inl (cA, (60, .inl lf))), (q3, .inl (cA, (320, .inl rf))), (q4, .inl (cA, (320, .inl nf))), (q5, .inl (cA, (6, .inl gf))), (o, .inl (cL, (1, .inr (.inl fo))))] := hD
      refine lv_istore (lv' := [(6, .int 0), (5, .int 1), (4, .int (nI i)), (3, .ref o), (2, .ref y0), (1, .ref x0), (0, .ref b)]) hx hb dL_law_459 hl (by decide) rfl (fun ls hl => ?_)
      refine lv_aload_n hx hb dL_law_461 rfl (lv_at hl 4 rfl) ?_
      refine g_RVi (As := []) (rest := []) ⟨hx, hb, hml, hown, hts⟩ (mt_X2_thrown l dC dI cA H.size y0 q1 q2 q3 q4 q5 rn 1 sf lf mn rf nf ct il gf) (cwV 0 hts gL_law_X2_thrown rfl rfl rfl hdX2_thrown ⟨Nat.le_of_ble_eq_true rfl, Nat.le_of_ble_eq_true rfl⟩) hP hK hD [9, 10, 11, 12, 13, 14] (by decide) rfl (va_recv hK hP (ci := 2) (q0 := 9) rfl rfl) rfl hl.1 rfl (Nat.le_of_ble_eq_true rfl) dL_law_462 hc1 hs1 ?_
      refine lv_iload hx hb dL_law_465 (lv_at hl 1 rfl) ?_
      refine lv_icmp_eq (tgt := 472) hx hb dL_law_467 (by decide) (fun c467 => ?_) (fun c467 => ?_)
      · refine lv_iload hx hb dL_law_472 (lv_at hl 1 rfl) ?_
        refine lv_if_ne (tgt := 489) hx hb dL_law_474 (by decide) (fun c474 => ?_) (fun c474 => ?_)
        · have c474 : ¬ 1 = 0 := g_neT 1 0 (by omega) (by omega) c474
          refine lv_goto (tgt := 1241) hx hb dL_law_489 (by decide) ?_
          exact kk rn L0 L1 _ _ _ _ _ ⟨f0, f1, n2, f2, n3, f3, 1, sf, lf, mn, rf, nf, ct, il, gf, fo, hP, hD, hS, hR0, hR1, hl0, hl1, hrn, hr6, hk0, hk1, hW⟩ (by omega) (by omega) (lv_sub hl [2, 3, 4, 5, 6] rfl)
        · exact absurd c474 (by decide)
      · exact absurd (by decide) c467
    · by_cases hap : abI (abI (atL L0 k) - abI (atL L0 (k + 1))) < 2
      · refine lv_aload_n hx hb dL_law_424 rfl (lv_at hl 3 rfl) ?_
        refine lv_aload_n hx hb dL_law_425 rfl (lv_at hl 4 rfl) ?_
        refine lv_iload hx hb dL_law_426 (lv_at hl 0 rfl) ?_
        refine lv_iconst (v := 1) hx hb dL_law_428 (by decide) ?_
        refine lv_iadd hx hb dL_law_429 ?_
        rw [show (nI i) + 1 = nI (i + 1) from nI_add i 1]
        refine va_sld hx hb hX hbl hbA hS (vp_in_nI (by omega) (by omega)) dL_law_430 ?_
        rw [show (nI (i + 1)).toNatClampNeg = i + 1 from nI_clamp (by omega)]
        rw [h1]
        refine lv_aload_n hx hb dL_law_431 rfl (lv_at hl 4 rfl) ?_
        refine lv_iload hx hb dL_law_432 (lv_at hl 0 rfl) ?_
        refine lv_iconst (v := 2) hx hb dL_law_434 (by decide) ?_
        refine lv_iadd hx hb dL_law_435 ?_
        rw [show (nI i) + 2 = nI (i + 2) from nI_add i 2]
        refine va_sld hx hb hX hbl hbA hS (vp_in_nI (by omega) (by omega)) dL_law_436 ?_
        rw [show (nI (i + 2)).toNatClampNeg = i + 2 from nI_clamp (by omega)]
        rw [h2]
        refine lv_aload_n hx hb dL_law_437 rfl (lv_at hl 1 rfl) ?_
        refine g_LS (As := [.ref x0, .int (nI 0), .int (nI k), .ref o]) (rest := []) ⟨hx, hb, hml, hown, hts⟩ (mt_L_swap_2_0 l htr dC dI cA cL H.size x0 r0 r1 r2 r3 rn a0 L0 f0 k o fo hR0 (by omega) hap) (vx_cwSW 4 hts gL_law_L_swap rfl rfl rfl hdL_swap ⟨Nat.le_of_ble_eq_true rfl, Nat.le_of_ble_eq_true rfl⟩) hP hKl hD hS hA hZ [0, 1, 2, 15] (by decide) rfl rfl hl.1 rfl (Nat.le_of_ble_eq_true rfl) dL_law_438 hc1 hs1 (fun u9 => [(x0, .inr (1, [.ref r0, .ref r1, .ref r2, .ref r3, .int (nI rn)])), (r0, .inr (0, [.ref a0, .int (nI L0.length)])), (a0, .inl (cA, (100, .inl f0))), (r1, .inr (0, [.ref a1, .int (nI L1.length)])), (a1, .inl (cA, (100, .inl f1))), (r2, .inr (0, [.ref a2, .int n2])), (a2, .inl (cA, (100, .inl f2))), (r3, .inr (0, [.ref a3, .int n3])), (a3, .inl (cA, (100, .inl f3))), (y0, .inr (2, [.int tv, .int (nI rn), .ref q1, .ref q2, .int mn, .ref q3, .ref q4, .int ct, .int il, .ref q5])), (q1, .inl (cA, (2, .inl sf))), (q2, .inl (cA, (60, .inl lf))), (q3, .inl (cA, (320, .inl rf))), (q4, .inl (cA, (320, .inl nf))), (q5, .inl (cA, (6, .inl gf))), (o, .inl (cL, (1, .inr (.inl fo))))]) (fun _ => rfl) (fun _ => rfl) (fun u H locs hw_1 hP hD hS => ?_)
        have hP : va_P (dC, dI) vwCl [(x0, .inr (1, [.ref r0, .ref r1, .ref r2, .ref r3, .int (nI rn)])), (r0, .inr (0, [.ref a0, .int (nI L0.length)])), (a0, .inl (cA, (100, .inl f0))), (r1, .inr (0, [.ref a1, .int (nI L1.length)])), (a1, .inl (cA, (100, .inl f1))), (r2, .inr (0, [.ref a2, .int n2])), (a2, .inl (cA, (100, .inl f2))), (r3, .inr (0, [.ref a3, .int n3])), (a3, .inl (cA, (100, .inl f3))), (y0, .inr (2, [.int tv, .int (nI rn), .ref q1, .ref q2, .int mn, .ref q3, .ref q4, .int ct, .int il, .ref q5])), (q1, .inl (cA, (2, .inl sf))), (q2, .inl (cA, (60, .inl lf))), (q3, .inl (cA, (320, .inl rf))), (q4, .inl (cA, (320, .inl nf))), (q5, .inl (cA, (6, .inl gf))), (o, .inl (cL, (1, .inr (.inl fo))))] H := hP
        have hD : va_D A [(x0, .inr (1, [.ref r0, .ref r1, .ref r2, .ref r3, .int (nI rn)])), (r0, .inr (0, [.ref a0, .int (nI L0.length)])), (a0, .inl (cA, (100, .inl f0))), (r1, .inr (0, [.ref a1, .int (nI L1.length)])), (a1, .inl (cA, (100, .inl f1))), (r2, .inr (0, [.ref a2, .int n2])), (a2, .inl (cA, (100, .inl f2))), (r3, .inr (0, [.ref a3, .int n3])), (a3, .inl (cA, (100, .inl f3))), (y0, .inr (2, [.int tv, .int (nI rn), .ref q1, .ref q2, .int mn, .ref q3, .ref q4, .int ct, .int il, .ref q5])), (q1, .inl (cA, (2, .inl sf))), (q2, .inl (cA, (60, .inl lf))), (q3, .inl (cA, (320, .inl rf))), (q4, .inl (cA, (320, .inl nf))), (q5, .inl (cA, (6, .inl gf))), (o, .inl (cL, (1, .inr (.inl fo))))] := hD
        refine lv_istore (lv' := [(5, .int 2), (4, .int (nI i)), (3, .ref o), (2, .ref y0), (1, .ref x0), (0, .ref b)]) hx hb dL_law_441 hl (by decide) rfl (fun ls hl => ?_)
        refine lv_aload_n hx hb dL_law_443 rfl (lv_at hl 3 rfl) ?_
        refine lv_aload_n hx hb dL_law_444 rfl (lv_at hl 5 rfl) ?_
        refine lv_iload hx hb dL_law_445 (lv_at hl 1 rfl) ?_
        refine lv_iconst (v := 1) hx hb dL_law_447 (by decide) ?_
        refine lv_iadd hx hb dL_law_448 ?_
        rw [show (nI i) + 1 = nI (i + 1) from nI_add i 1]
        refine va_sld hx hb hX hbl hbA hS (vp_in_nI (by omega) (by omega)) dL_law_449 ?_
        rw [show (nI (i + 1)).toNatClampNeg = i + 1 from nI_clamp (by omega)]
        rw [h1]
        refine lv_aload_n hx hb dL_law_450 rfl (lv_at hl 5 rfl) ?_
        refine lv_iload hx hb dL_law_451 (lv_at hl 1 rfl) ?_
        refine lv_iconst (v := 2) hx hb dL_law_453 (by decide) ?_
        refine lv_iadd hx hb dL_law_454 ?_
        rw [show (nI i) + 2 = nI (i + 2) from nI_add i 2]
        refine va_sld hx hb hX hbl hbA hS (vp_in_nI (by omega) (by omega)) dL_law_455 ?_
        rw [show (nI (i + 2)).toNatClampNeg = i + 2 from nI_clamp (by omega)]
        rw [h2]
        refine g_MVi (As := [.int (nI 0), .int (nI k)]) (rest := []) ⟨hx, hb, hml, hown, hts⟩ (mt_X2_swap_2 l dC dI cA H.size y0 q1 q2 q3 q4 q5 rn tv sf lf mn rf nf ct il gf (V2 L0 L1) 0 k hW (by omega) (show k + 1 < L0.length from by omega) hap) (cwV 2 hts gL_law_X2_swap rfl rfl rfl hdX2_swap ⟨Nat.le_of_ble_eq_true rfl, Nat.le_of_ble_eq_true rfl⟩) hP hK hD hS hA [9, 10, 11, 12, 13, 14] (by decide) rfl (va_recv hK hP (ci := 2) (q0 := 9) rfl rfl) rfl hl.1 rfl (Nat.le_of_ble_eq_true rfl) dL_law_456 hc1 hs1 (fun u9 => [(x0, .inr (1, [.ref r0, .ref r1, .ref r2, .ref r3, .int (nI rn)])), (r0, .inr (0, [.ref a0, .int (nI L0.length)])), (a0, .inl (cA, (100, .inl f0))), (r1, .inr (0, [.ref a1, .int (nI L1.length)])), (a1, .inl (cA, (100, .inl f1))), (r2, .inr (0, [.ref a2, .int n2])), (a2, .inl (cA, (100, .inl f2))), (r3, .inr (0, [.ref a3, .int n3])), (a3, .inl (cA, (100, .inl f3))), (y0, .inr (2, [.int 2, .int (nI rn), .ref q1, .ref q2, .int mn, .ref q3, .ref q4, .int ct, .int il, .ref q5])), (q1, .inl (cA, (2, .inl sf))), (q2, .inl (cA, (60, .inl lf))), (q3, .inl (cA, (320, .inl rf))), (q4, .inl (cA, (320, .inl nf))), (q5, .inl (cA, (6, .inl gf))), (o, .inl (cL, (1, .inr (.inl fo))))]) (fun _ => rfl) (fun _ => rfl) (fun u H locs hw_2 hP hD hS => ?_)
        have hw_2 : True := hw_2
        have hP : va_P (dC, dI) vwCl [(x0, .inr (1, [.ref r0, .ref r1, .ref r2, .ref r3, .int (nI rn)])), (r0, .inr (0, [.ref a0, .int (nI L0.length)])), (a0, .inl (cA, (100, .inl f0))), (r1, .inr (0, [.ref a1, .int (nI L1.length)])), (a1, .inl (cA, (100, .inl f1))), (r2, .inr (0, [.ref a2, .int n2])), (a2, .inl (cA, (100, .inl f2))), (r3, .inr (0, [.ref a3, .int n3])), (a3, .inl (cA, (100, .inl f3))), (y0, .inr (2, [.int 2, .int (nI rn), .ref q1, .ref q2, .int mn, .ref q3, .ref q4, .int ct, .int il, .ref q5])), (q1, .inl (cA, (2, .inl sf))), (q2, .inl (cA, (60, .inl lf))), (q3, .inl (cA, (320, .inl rf))), (q4, .inl (cA, (320, .inl nf))), (q5, .inl (cA, (6, .inl gf))), (o, .inl (cL, (1, .inr (.inl fo))))] H := hP
        have hD : va_D A [(x0, .inr (1, [.ref r0, .ref r1, .ref r2, .ref r3, .int (nI rn)])), (r0, .inr (0, [.ref a0, .int (nI L0.length)])), (a0, .inl (cA, (100, .inl f0))), (r1, .inr (0, [.ref a1, .int (nI L1.length)])), (a1, .inl (cA, (100, .inl f1))), (r2, .inr (0, [.ref a2, .int n2])), (a2, .inl (cA, (100, .inl f2))), (r3, .inr (0, [.ref a3, .int n3])), (a3, .inl (cA, (100, .inl f3))), (y0, .inr (2, [.int 2, .int (nI rn), .ref q1, .ref q2, .int mn, .ref q3, .ref q4, .int ct, .int il, .ref q5])), (q1, .inl (cA, (2, .inl sf))), (q2, .inl (cA, (60, .inl lf))), (q3, .inl (cA, (320, .inl rf))), (q4, .inl (cA, (320, .inl nf))), (q5, .inl (cA, (6, .inl gf))), (o, .inl (cL, (1, .inr (.inl fo))))] := hD
        refine lv_istore (lv' := [(6, .int 0), (5, .int 2), (4, .int (nI i)), (3, .ref o), (2, .ref y0), (1, .ref x0), (0, .ref b)]) hx hb dL_law_459 hl (by decide) rfl (fun ls hl => ?_)
        refine lv_aload_n hx hb dL_law_461 rfl (lv_at hl 4 rfl) ?_
        refine g_RVi (As := []) (rest := []) ⟨hx, hb, hml, hown, hts⟩ (mt_X2_thrown l dC dI cA H.size y0 q1 q2 q3 q4 q5 rn 2 sf lf mn rf nf ct il gf) (cwV 0 hts gL_law_X2_thrown rfl rfl rfl hdX2_thrown ⟨Nat.le_of_ble_eq_true rfl, Nat.le_of_ble_eq_true rfl⟩) hP hK hD [9, 10, 11, 12, 13, 14] (by decide) rfl (va_recv hK hP (ci := 2) (q0 := 9) rfl rfl) rfl hl.1 rfl (Nat.le_of_ble_eq_true rfl) dL_law_462 hc1 hs1 ?_
        refine lv_iload hx hb dL_law_465 (lv_at hl 1 rfl) ?_
        refine lv_icmp_eq (tgt := 472) hx hb dL_law_467 (by decide) (fun c467 => ?_) (fun c467 => ?_)
        · refine lv_iload hx hb dL_law_472 (lv_at hl 1 rfl) ?_
          refine lv_if_ne (tgt := 489) hx hb dL_law_474 (by decide) (fun c474 => ?_) (fun c474 => ?_)
          · have c474 : ¬ 2 = 0 := g_neT 2 0 (by omega) (by omega) c474
            refine lv_goto (tgt := 1241) hx hb dL_law_489 (by decide) ?_
            exact kk rn L0 L1 _ _ _ _ _ ⟨f0, f1, n2, f2, n3, f3, 2, sf, lf, mn, rf, nf, ct, il, gf, fo, hP, hD, hS, hR0, hR1, hl0, hl1, hrn, hr6, hk0, hk1, hW⟩ (by omega) (by omega) (lv_sub hl [2, 3, 4, 5, 6] rfl)
          · exact absurd c474 (by decide)
        · exact absurd (by decide) c467
      · refine lv_aload_n hx hb dL_law_424 rfl (lv_at hl 3 rfl) ?_
        refine lv_aload_n hx hb dL_law_425 rfl (lv_at hl 4 rfl) ?_
        refine lv_iload hx hb dL_law_426 (lv_at hl 0 rfl) ?_
        refine lv_iconst (v := 1) hx hb dL_law_428 (by decide) ?_
        refine lv_iadd hx hb dL_law_429 ?_
        rw [show (nI i) + 1 = nI (i + 1) from nI_add i 1]
        refine va_sld hx hb hX hbl hbA hS (vp_in_nI (by omega) (by omega)) dL_law_430 ?_
        rw [show (nI (i + 1)).toNatClampNeg = i + 1 from nI_clamp (by omega)]
        rw [h1]
        refine lv_aload_n hx hb dL_law_431 rfl (lv_at hl 4 rfl) ?_
        refine lv_iload hx hb dL_law_432 (lv_at hl 0 rfl) ?_
        refine lv_iconst (v := 2) hx hb dL_law_434 (by decide) ?_
        refine lv_iadd hx hb dL_law_435 ?_
        rw [show (nI i) + 2 = nI (i + 2) from nI_add i 2]
        refine va_sld hx hb hX hbl hbA hS (vp_in_nI (by omega) (by omega)) dL_law_436 ?_
        rw [show (nI (i + 2)).toNatClampNeg = i + 2 from nI_clamp (by omega)]
        rw [h2]
        refine lv_aload_n hx hb dL_law_437 rfl (lv_at hl 1 rfl) ?_
        refine g_LS (As := [.ref x0, .int (nI 0), .int (nI k), .ref o]) (rest := []) ⟨hx, hb, hml, hown, hts⟩ (mt_L_swap0 l htr dC dI cA cL H.size x0 r0 r1 r2 r3 rn a0 L0 f0 k o fo hR0 (by omega) hap) (vx_cwSW 4 hts gL_law_L_swap rfl rfl rfl hdL_swap ⟨Nat.le_of_ble_eq_true rfl, Nat.le_of_ble_eq_true rfl⟩) hP hKl hD hS hA hZ [0, 1, 2, 15] (by decide) rfl rfl hl.1 rfl (Nat.le_of_ble_eq_true rfl) dL_law_438 hc0 hs0 (fun u9 => [(x0, .inr (1, [.ref r0, .ref r1, .ref r2, .ref r3, .int (nI rn)])), (r0, .inr (0, [.ref a0, .int (nI (((L0.set k (atL L0 (k + 1))).set (k + 1) (atL L0 k)).length))])), (a0, .inl (cA, (100, .inl u9))), (r1, .inr (0, [.ref a1, .int (nI L1.length)])), (a1, .inl (cA, (100, .inl f1))), (r2, .inr (0, [.ref a2, .int n2])), (a2, .inl (cA, (100, .inl f2))), (r3, .inr (0, [.ref a3, .int n3])), (a3, .inl (cA, (100, .inl f3))), (y0, .inr (2, [.int tv, .int (nI rn), .ref q1, .ref q2, .int mn, .ref q3, .ref q4, .int ct, .int il, .ref q5])), (q1, .inl (cA, (2, .inl sf))), (q2, .inl (cA, (60, .inl lf))), (q3, .inl (cA, (320, .inl rf))), (q4, .inl (cA, (320, .inl nf))), (q5, .inl (cA, (6, .inl gf))), (o, .inl (cL, (1, .inr (.inl (vp_updL fo 0 (atL L0 (k + 1)).toInt64)))))]) (fun _ => rfl) (fun _ => rfl) (fun u H locs hw_2 hP hD hS => ?_)
        obtain ⟨f1_1, rfl⟩ : ∃ z, z = u := ⟨_, rfl⟩
        have hw_2 : RI ((L0.set k (atL L0 (k + 1))).set (k + 1) (atL L0 k)) f1_1 := hw_2
        have hP : va_P (dC, dI) vwCl [(x0, .inr (1, [.ref r0, .ref r1, .ref r2, .ref r3, .int (nI rn)])), (r0, .inr (0, [.ref a0, .int (nI (((L0.set k (atL L0 (k + 1))).set (k + 1) (atL L0 k)).length))])), (a0, .inl (cA, (100, .inl f1_1))), (r1, .inr (0, [.ref a1, .int (nI L1.length)])), (a1, .inl (cA, (100, .inl f1))), (r2, .inr (0, [.ref a2, .int n2])), (a2, .inl (cA, (100, .inl f2))), (r3, .inr (0, [.ref a3, .int n3])), (a3, .inl (cA, (100, .inl f3))), (y0, .inr (2, [.int tv, .int (nI rn), .ref q1, .ref q2, .int mn, .ref q3, .ref q4, .int ct, .int il, .ref q5])), (q1, .inl (cA, (2, .inl sf))), (q2, .inl (cA, (60, .inl lf))), (q3, .inl (cA, (320, .inl rf))), (q4, .inl (cA, (320, .inl nf))), (q5, .inl (cA, (6, .inl gf))), (o, .inl (cL, (1, .inr (.inl (vp_updL fo 0 (atL L0 (k + 1)).toInt64)))))] H := hP
        have hD : va_D A [(x0, .inr (1, [.ref r0, .ref r1, .ref r2, .ref r3, .int (nI rn)])), (r0, .inr (0, [.ref a0, .int (nI (((L0.set k (atL L0 (k + 1))).set (k + 1) (atL L0 k)).length))])), (a0, .inl (cA, (100, .inl f1_1))), (r1, .inr (0, [.ref a1, .int (nI L1.length)])), (a1, .inl (cA, (100, .inl f1))), (r2, .inr (0, [.ref a2, .int n2])), (a2, .inl (cA, (100, .inl f2))), (r3, .inr (0, [.ref a3, .int n3])), (a3, .inl (cA, (100, .inl f3))), (y0, .inr (2, [.int tv, .int (nI rn), .ref q1, .ref q2, .int mn, .ref q3, .ref q4, .int ct, .int il, .ref q5])), (q1, .inl (cA, (2, .inl sf))), (q2, .inl (cA, (60, .inl lf))), (q3, .inl (cA, (320, .inl rf))), (q4, .inl (cA, (320, .inl nf))), (q5, .inl (cA, (6, .inl gf))), (o, .inl (cL, (1, .inr (.inl (vp_updL fo 0 (atL L0 (k + 1)).toInt64)))))] := hD
        refine lv_istore (lv' := [(5, .int 0), (4, .int (nI i)), (3, .ref o), (2, .ref y0), (1, .ref x0), (0, .ref b)]) hx hb dL_law_441 hl (by decide) rfl (fun ls hl => ?_)
        refine lv_aload_n hx hb dL_law_443 rfl (lv_at hl 3 rfl) ?_
        refine lv_aload_n hx hb dL_law_444 rfl (lv_at hl 5 rfl) ?_
        refine lv_iload hx hb dL_law_445 (lv_at hl 1 rfl) ?_
        refine lv_iconst (v := 1) hx hb dL_law_447 (by decide) ?_
        refine lv_iadd hx hb dL_law_448 ?_
        rw [show (nI i) + 1 = nI (i + 1) from nI_add i 1]
        refine va_sld hx hb hX hbl hbA hS (vp_in_nI (by omega) (by omega)) dL_law_449 ?_
        rw [show (nI (i + 1)).toNatClampNeg = i + 1 from nI_clamp (by omega)]
        rw [h1]
        refine lv_aload_n hx hb dL_law_450 rfl (lv_at hl 5 rfl) ?_
        refine lv_iload hx hb dL_law_451 (lv_at hl 1 rfl) ?_
        refine lv_iconst (v := 2) hx hb dL_law_453 (by decide) ?_
        refine lv_iadd hx hb dL_law_454 ?_
        rw [show (nI i) + 2 = nI (i + 2) from nI_add i 2]
        refine va_sld hx hb hX hbl hbA hS (vp_in_nI (by omega) (by omega)) dL_law_455 ?_
        rw [show (nI (i + 2)).toNatClampNeg = i + 2 from nI_clamp (by omega)]
        rw [h2]
        refine g_MVi (As := [.int (nI 0), .int (nI k)]) (rest := []) ⟨hx, hb, hml, hown, hts⟩ (mt_X2_swap l dC dI cA H.size y0 q1 q2 q3 q4 q5 rn tv sf lf mn rf nf ct il gf (V2 L0 L1) 0 k hW (by omega) (show k + 1 < L0.length from by omega) hap) (cwV 2 hts gL_law_X2_swap rfl rfl rfl hdX2_swap ⟨Nat.le_of_ble_eq_true rfl, Nat.le_of_ble_eq_true rfl⟩) hP hK hD hS hA [9, 10, 11, 12, 13, 14] (by decide) rfl (va_recv hK hP (ci := 2) (q0 := 9) rfl rfl) rfl hl.1 rfl (Nat.le_of_ble_eq_true rfl) dL_law_456 hc0 hs0 (fun u9 => [(x0, .inr (1, [.ref r0, .ref r1, .ref r2, .ref r3, .int (nI rn)])), (r0, .inr (0, [.ref a0, .int (nI (((L0.set k (atL L0 (k + 1))).set (k + 1) (atL L0 k)).length))])), (a0, .inl (cA, (100, .inl f1_1))), (r1, .inr (0, [.ref a1, .int (nI L1.length)])), (a1, .inl (cA, (100, .inl f1))), (r2, .inr (0, [.ref a2, .int n2])), (a2, .inl (cA, (100, .inl f2))), (r3, .inr (0, [.ref a3, .int n3])), (a3, .inl (cA, (100, .inl f3))), (y0, .inr (2, [.int 0, .int (nI rn), .ref q1, .ref q2, .int mn, .ref q3, .ref q4, .int ct, .int il, .ref q5])), (q1, .inl (cA, (2, .inl sf))), (q2, .inl (cA, (60, .inl u9))), (q3, .inl (cA, (320, .inl rf))), (q4, .inl (cA, (320, .inl nf))), (q5, .inl (cA, (6, .inl gf))), (o, .inl (cL, (1, .inr (.inl (vp_updL fo 0 (atL L0 (k + 1)).toInt64)))))]) (fun _ => rfl) (fun _ => rfl) (fun u H locs hw_4 hP hD hS => ?_)
        obtain ⟨l1_3, rfl⟩ : ∃ z, z = u := ⟨_, rfl⟩
        have hw_4 : MW (upW (V2 L0 L1) 0 ((((V2 L0 L1) 0).set k (atL ((V2 L0 L1) 0) (k + 1))).set (k + 1) (atL ((V2 L0 L1) 0) k))) sf l1_3 := hw_4
        have hP : va_P (dC, dI) vwCl [(x0, .inr (1, [.ref r0, .ref r1, .ref r2, .ref r3, .int (nI rn)])), (r0, .inr (0, [.ref a0, .int (nI (((L0.set k (atL L0 (k + 1))).set (k + 1) (atL L0 k)).length))])), (a0, .inl (cA, (100, .inl f1_1))), (r1, .inr (0, [.ref a1, .int (nI L1.length)])), (a1, .inl (cA, (100, .inl f1))), (r2, .inr (0, [.ref a2, .int n2])), (a2, .inl (cA, (100, .inl f2))), (r3, .inr (0, [.ref a3, .int n3])), (a3, .inl (cA, (100, .inl f3))), (y0, .inr (2, [.int 0, .int (nI rn), .ref q1, .ref q2, .int mn, .ref q3, .ref q4, .int ct, .int il, .ref q5])), (q1, .inl (cA, (2, .inl sf))), (q2, .inl (cA, (60, .inl l1_3))), (q3, .inl (cA, (320, .inl rf))), (q4, .inl (cA, (320, .inl nf))), (q5, .inl (cA, (6, .inl gf))), (o, .inl (cL, (1, .inr (.inl (vp_updL fo 0 (atL L0 (k + 1)).toInt64)))))] H := hP
        have hD : va_D A [(x0, .inr (1, [.ref r0, .ref r1, .ref r2, .ref r3, .int (nI rn)])), (r0, .inr (0, [.ref a0, .int (nI (((L0.set k (atL L0 (k + 1))).set (k + 1) (atL L0 k)).length))])), (a0, .inl (cA, (100, .inl f1_1))), (r1, .inr (0, [.ref a1, .int (nI L1.length)])), (a1, .inl (cA, (100, .inl f1))), (r2, .inr (0, [.ref a2, .int n2])), (a2, .inl (cA, (100, .inl f2))), (r3, .inr (0, [.ref a3, .int n3])), (a3, .inl (cA, (100, .inl f3))), (y0, .inr (2, [.int 0, .int (nI rn), .ref q1, .ref q2, .int mn, .ref q3, .ref q4, .int ct, .int il, .ref q5])), (q1, .inl (cA, (2, .inl sf))), (q2, .inl (cA, (60, .inl l1_3))), (q3, .inl (cA, (320, .inl rf))), (q4, .inl (cA, (320, .inl nf))), (q5, .inl (cA, (6, .inl gf))), (o, .inl (cL, (1, .inr (.inl (vp_updL fo 0 (atL L0 (k + 1)).toInt64)))))] := hD
        refine lv_istore (lv' := [(6, .int (atL ((V2 L0 L1) 0) (k + 1))), (5, .int 0), (4, .int (nI i)), (3, .ref o), (2, .ref y0), (1, .ref x0), (0, .ref b)]) hx hb dL_law_459 hl (by decide) rfl (fun ls hl => ?_)
        refine lv_aload_n hx hb dL_law_461 rfl (lv_at hl 4 rfl) ?_
        refine g_RVi (As := []) (rest := []) ⟨hx, hb, hml, hown, hts⟩ (mt_X2_thrown l dC dI cA H.size y0 q1 q2 q3 q4 q5 rn 0 sf l1_3 mn rf nf ct il gf) (cwV 0 hts gL_law_X2_thrown rfl rfl rfl hdX2_thrown ⟨Nat.le_of_ble_eq_true rfl, Nat.le_of_ble_eq_true rfl⟩) hP hK hD [9, 10, 11, 12, 13, 14] (by decide) rfl (va_recv hK hP (ci := 2) (q0 := 9) rfl rfl) rfl hl.1 rfl (Nat.le_of_ble_eq_true rfl) dL_law_462 hc0 hs0 ?_
        refine lv_iload hx hb dL_law_465 (lv_at hl 1 rfl) ?_
        refine lv_icmp_eq (tgt := 472) hx hb dL_law_467 (by decide) (fun c467 => ?_) (fun c467 => ?_)
        · refine lv_iload hx hb dL_law_472 (lv_at hl 1 rfl) ?_
          refine lv_if_ne (tgt := 489) hx hb dL_law_474 (by decide) (fun c474 => ?_) (fun c474 => ?_)
          · exact absurd (by decide) c474
          · have c474 : 0 = 0 := g_neF 0 0 (by omega) (by omega) c474
            refine lv_aload_n hx hb dL_law_477 rfl (lv_at hl 3 rfl) ?_
            refine lv_iconst (v := 0) hx hb dL_law_478 (by decide) ?_
            refine va_lald hx hb hKl hP 15 1 rfl rfl (vp_in_nI (n := 0) (by omega) (by decide)) dL_law_479 ?_
            rw [show (0 : Int32).toNatClampNeg = 0 from by decide, pk_uLs]
            refine lv_iload hx hb dL_law_480 (lv_at hl 0 rfl) ?_
            refine lv_i2l (v := (atL ((V2 L0 L1) 0) (k + 1)).toInt64) hx hb dL_law_482 rfl ?_
            refine W.lcmp hx hb dL_law_483 ?_
            rw [show lg_cmp ((atL L0 (k + 1)).toInt64) ((atL ((V2 L0 L1) 0) (k + 1)).toInt64) = 0 from (lg_cmp_eq _ _).mpr rfl]
            refine lv_if_eq (tgt := 489) hx hb dL_law_484 (by decide) (fun c484 => ?_) (fun c484 => ?_)
            · have c484 : 0 = 0 := g_eqT 0 0 (by omega) (by omega) c484
              refine lv_goto (tgt := 1241) hx hb dL_law_489 (by decide) ?_
              exact kk rn ((L0.set k (atL L0 (k + 1))).set (k + 1) (atL L0 k)) L1 _ _ _ _ _ ⟨f1_1, f1, n2, f2, n3, f3, 0, sf, l1_3, mn, rf, nf, ct, il, gf, vp_updL fo 0 (atL L0 (k + 1)).toInt64, hP, hD, hS, hw_2, hR1, by rw [List.length_set, List.length_set]; exact hl0, hl1, hrn, hr6, okL_set (okL_set hk0 (okL_at hk0 (by omega))) (okL_at hk0 (by omega)), hk1, MW_c0 hw_4⟩ (by omega) (by omega) (lv_sub hl [2, 3, 4, 5, 6] rfl)
            · exact absurd (by decide) c484
        · exact absurd (by decide) c467
  · rcases pk_ix (xs (i + 2)) (n := L1.length - 1) (by omega) with hbad | hbad | ⟨k, hk9, h2⟩
    · refine lv_aload_n hx hb dL_law_424 rfl (lv_at hl 3 rfl) ?_
      refine lv_aload_n hx hb dL_law_425 rfl (lv_at hl 4 rfl) ?_
      refine lv_iload hx hb dL_law_426 (lv_at hl 0 rfl) ?_
      refine lv_iconst (v := 1) hx hb dL_law_428 (by decide) ?_
      refine lv_iadd hx hb dL_law_429 ?_
      rw [show (nI i) + 1 = nI (i + 1) from nI_add i 1]
      refine va_sld hx hb hX hbl hbA hS (vp_in_nI (by omega) (by omega)) dL_law_430 ?_
      rw [show (nI (i + 1)).toNatClampNeg = i + 1 from nI_clamp (by omega)]
      rw [h1]
      refine lv_aload_n hx hb dL_law_431 rfl (lv_at hl 4 rfl) ?_
      refine lv_iload hx hb dL_law_432 (lv_at hl 0 rfl) ?_
      refine lv_iconst (v := 2) hx hb dL_law_434 (by decide) ?_
      refine lv_iadd hx hb dL_law_435 ?_
      rw [show (nI i) + 2 = nI (i + 2) from nI_add i 2]
      refine va_sld hx hb hX hbl hbA hS (vp_in_nI (by omega) (by omega)) dL_law_436 ?_
      rw [show (nI (i + 2)).toNatClampNeg = i + 2 from nI_clamp (by omega)]
      refine lv_aload_n hx hb dL_law_437 rfl (lv_at hl 1 rfl) ?_
      refine g_LS (As := [.ref x0, .int (nI 1), .int (xs (i + 2)), .ref o]) (rest := []) ⟨hx, hb, hml, hown, hts⟩ (mt_L_swap_1b_1 l htr dC dI cA cL H.size x0 r0 r1 r2 r3 rn a1 L1 f1 (xs (i + 2)) o fo hR1 (pl_bad hl1 (Or.inl hbad))) (vx_cwSW 4 hts gL_law_L_swap rfl rfl rfl hdL_swap ⟨Nat.le_of_ble_eq_true rfl, Nat.le_of_ble_eq_true rfl⟩) hP hKl hD hS hA hZ [0, 3, 4, 15] (by decide) rfl rfl hl.1 rfl (Nat.le_of_ble_eq_true rfl) dL_law_438 hc1 hs1 (fun u9 => [(x0, .inr (1, [.ref r0, .ref r1, .ref r2, .ref r3, .int (nI rn)])), (r0, .inr (0, [.ref a0, .int (nI L0.length)])), (a0, .inl (cA, (100, .inl f0))), (r1, .inr (0, [.ref a1, .int (nI L1.length)])), (a1, .inl (cA, (100, .inl f1))), (r2, .inr (0, [.ref a2, .int n2])), (a2, .inl (cA, (100, .inl f2))), (r3, .inr (0, [.ref a3, .int n3])), (a3, .inl (cA, (100, .inl f3))), (y0, .inr (2, [.int tv, .int (nI rn), .ref q1, .ref q2, .int mn, .ref q3, .ref q4, .int ct, .int il, .ref q5])), (q1, .inl (cA, (2, .inl sf))), (q2, .inl (cA, (60, .inl lf))), (q3, .inl (cA, (320, .inl rf))), (q4, .inl (cA, (320, .inl nf))), (q5, .inl (cA, (6, .inl gf))), (o, .inl (cL, (1, .inr (.inl fo))))]) (fun _ => rfl) (fun _ => rfl) (fun u H locs hw_1 hP hD hS => ?_)
      have hP : va_P (dC, dI) vwCl [(x0, .inr (1, [.ref r0, .ref r1, .ref r2, .ref r3, .int (nI rn)])), (r0, .inr (0, [.ref a0, .int (nI L0.length)])), (a0, .inl (cA, (100, .inl f0))), (r1, .inr (0, [.ref a1, .int (nI L1.length)])), (a1, .inl (cA, (100, .inl f1))), (r2, .inr (0, [.ref a2, .int n2])), (a2, .inl (cA, (100, .inl f2))), (r3, .inr (0, [.ref a3, .int n3])), (a3, .inl (cA, (100, .inl f3))), (y0, .inr (2, [.int tv, .int (nI rn), .ref q1, .ref q2, .int mn, .ref q3, .ref q4, .int ct, .int il, .ref q5])), (q1, .inl (cA, (2, .inl sf))), (q2, .inl (cA, (60, .inl lf))), (q3, .inl (cA, (320, .inl rf))), (q4, .inl (cA, (320, .inl nf))), (q5, .inl (cA, (6, .inl gf))), (o, .inl (cL, (1, .inr (.inl fo))))] H := hP
      have hD : va_D A [(x0, .inr (1, [.ref r0, .ref r1, .ref r2, .ref r3, .int (nI rn)])), (r0, .inr (0, [.ref a0, .int (nI L0.length)])), (a0, .inl (cA, (100, .inl f0))), (r1, .inr (0, [.ref a1, .int (nI L1.length)])), (a1, .inl (cA, (100, .inl f1))), (r2, .inr (0, [.ref a2, .int n2])), (a2, .inl (cA, (100, .inl f2))), (r3, .inr (0, [.ref a3, .int n3])), (a3, .inl (cA, (100, .inl f3))), (y0, .inr (2, [.int tv, .int (nI rn), .ref q1, .ref q2, .int mn, .ref q3, .ref q4, .int ct, .int il, .ref q5])), (q1, .inl (cA, (2, .inl sf))), (q2, .inl (cA, (60, .inl lf))), (q3, .inl (cA, (320, .inl rf))), (q4, .inl (cA, (320, .inl nf))), (q5, .inl (cA, (6, .inl gf))), (o, .inl (cL, (1, .inr (.inl fo))))] := hD
      refine lv_istore (lv' := [(5, .int 1), (4, .int (nI i)), (3, .ref o), (2, .ref y0), (1, .ref x0), (0, .ref b)]) hx hb dL_law_441 hl (by decide) rfl (fun ls hl => ?_)
      refine lv_aload_n hx hb dL_law_443 rfl (lv_at hl 3 rfl) ?_
      refine lv_aload_n hx hb dL_law_444 rfl (lv_at hl 5 rfl) ?_
      refine lv_iload hx hb dL_law_445 (lv_at hl 1 rfl) ?_
      refine lv_iconst (v := 1) hx hb dL_law_447 (by decide) ?_
      refine lv_iadd hx hb dL_law_448 ?_
      rw [show (nI i) + 1 = nI (i + 1) from nI_add i 1]
      refine va_sld hx hb hX hbl hbA hS (vp_in_nI (by omega) (by omega)) dL_law_449 ?_
      rw [show (nI (i + 1)).toNatClampNeg = i + 1 from nI_clamp (by omega)]
      rw [h1]
      refine lv_aload_n hx hb dL_law_450 rfl (lv_at hl 5 rfl) ?_
      refine lv_iload hx hb dL_law_451 (lv_at hl 1 rfl) ?_
      refine lv_iconst (v := 2) hx hb dL_law_453 (by decide) ?_
      refine lv_iadd hx hb dL_law_454 ?_
      rw [show (nI i) + 2 = nI (i + 2) from nI_add i 2]
      refine va_sld hx hb hX hbl hbA hS (vp_in_nI (by omega) (by omega)) dL_law_455 ?_
      rw [show (nI (i + 2)).toNatClampNeg = i + 2 from nI_clamp (by omega)]
      refine g_MVi (As := [.int (nI 1), .int (xs (i + 2))]) (rest := []) ⟨hx, hb, hml, hown, hts⟩ (mt_X2_swap_1b l dC dI cA H.size y0 q1 q2 q3 q4 q5 rn tv sf lf mn rf nf ct il gf (V2 L0 L1) 1 (xs (i + 2)) hW (by omega) (Or.inl hbad)) (cwV 2 hts gL_law_X2_swap rfl rfl rfl hdX2_swap ⟨Nat.le_of_ble_eq_true rfl, Nat.le_of_ble_eq_true rfl⟩) hP hK hD hS hA [9, 10, 11, 12, 13, 14] (by decide) rfl (va_recv hK hP (ci := 2) (q0 := 9) rfl rfl) rfl hl.1 rfl (Nat.le_of_ble_eq_true rfl) dL_law_456 hc1 hs1 (fun u9 => [(x0, .inr (1, [.ref r0, .ref r1, .ref r2, .ref r3, .int (nI rn)])), (r0, .inr (0, [.ref a0, .int (nI L0.length)])), (a0, .inl (cA, (100, .inl f0))), (r1, .inr (0, [.ref a1, .int (nI L1.length)])), (a1, .inl (cA, (100, .inl f1))), (r2, .inr (0, [.ref a2, .int n2])), (a2, .inl (cA, (100, .inl f2))), (r3, .inr (0, [.ref a3, .int n3])), (a3, .inl (cA, (100, .inl f3))), (y0, .inr (2, [.int 1, .int (nI rn), .ref q1, .ref q2, .int mn, .ref q3, .ref q4, .int ct, .int il, .ref q5])), (q1, .inl (cA, (2, .inl sf))), (q2, .inl (cA, (60, .inl lf))), (q3, .inl (cA, (320, .inl rf))), (q4, .inl (cA, (320, .inl nf))), (q5, .inl (cA, (6, .inl gf))), (o, .inl (cL, (1, .inr (.inl fo))))]) (fun _ => rfl) (fun _ => rfl) (fun u H locs hw_2 hP hD hS => ?_)
      have hw_2 : True := hw_2
      have hP : va_P (dC, dI) vwCl [(x0, .inr (1, [.ref r0, .ref r1, .ref r2, .ref r3, .int (nI rn)])), (r0, .inr (0, [.ref a0, .int (nI L0.length)])), (a0, .inl (cA, (100, .inl f0))), (r1, .inr (0, [.ref a1, .int (nI L1.length)])), (a1, .inl (cA, (100, .inl f1))), (r2, .inr (0, [.ref a2, .int n2])), (a2, .inl (cA, (100, .inl f2))), (r3, .inr (0, [.ref a3, .int n3])), (a3, .inl (cA, (100, .inl f3))), (y0, .inr (2, [.int 1, .int (nI rn), .ref q1, .ref q2, .int mn, .ref q3, .ref q4, .int ct, .int il, .ref q5])), (q1, .inl (cA, (2, .inl sf))), (q2, .inl (cA, (60, .inl lf))), (q3, .inl (cA, (320, .inl rf))), (q4, .inl (cA, (320, .inl nf))), (q5, .inl (cA, (6, .inl gf))), (o, .inl (cL, (1, .inr (.inl fo))))] H := hP
      have hD : va_D A [(x0, .inr (1, [.ref r0, .ref r1, .ref r2, .ref r3, .int (nI rn)])), (r0, .inr (0, [.ref a0, .int (nI L0.length)])), (a0, .inl (cA, (100, .inl f0))), (r1, .inr (0, [.ref a1, .int (nI L1.length)])), (a1, .inl (cA, (100, .inl f1))), (r2, .inr (0, [.ref a2, .int n2])), (a2, .inl (cA, (100, .inl f2))), (r3, .inr (0, [.ref a3, .int n3])), (a3, .inl (cA, (100, .inl f3))), (y0, .inr (2, [.int 1, .int (nI rn), .ref q1, .ref q2, .int mn, .ref q3, .ref q4, .int ct, .int il, .ref q5])), (q1, .inl (cA, (2, .inl sf))), (q2, .inl (cA, (60, .inl lf))), (q3, .inl (cA, (320, .inl rf))), (q4, .inl (cA, (320, .inl nf))), (q5, .inl (cA, (6, .inl gf))), (o, .inl (cL, (1, .inr (.inl fo))))] := hD
      refine lv_istore (lv' := [(6, .int 0), (5, .int 1), (4, .int (nI i)), (3, .ref o), (2, .ref y0), (1, .ref x0), (0, .ref b)]) hx hb dL_law_459 hl (by decide) rfl (fun ls hl => ?_)
      refine lv_aload_n hx hb dL_law_461 rfl (lv_at hl 4 rfl) ?_
      refine g_RVi (As := []) (rest := []) ⟨hx, hb, hml, hown, hts⟩ (mt_X2_thrown l dC dI cA H.size y0 q1 q2 q3 q4 q5 rn 1 sf lf mn rf nf ct il gf) (cwV 0 hts gL_law_X2_thrown rfl rfl rfl hdX2_thrown ⟨Nat.le_of_ble_eq_true rfl, Nat.le_of_ble_eq_true rfl⟩) hP hK hD [9, 10, 11, 12, 13, 14] (by decide) rfl (va_recv hK hP (ci := 2) (q0 := 9) rfl rfl) rfl hl.1 rfl (Nat.le_of_ble_eq_true rfl) dL_law_462 hc1 hs1 ?_
      refine lv_iload hx hb dL_law_465 (lv_at hl 1 rfl) ?_
      refine lv_icmp_eq (tgt := 472) hx hb dL_law_467 (by decide) (fun c467 => ?_) (fun c467 => ?_)
      · refine lv_iload hx hb dL_law_472 (lv_at hl 1 rfl) ?_
        refine lv_if_ne (tgt := 489) hx hb dL_law_474 (by decide) (fun c474 => ?_) (fun c474 => ?_)
        · have c474 : ¬ 1 = 0 := g_neT 1 0 (by omega) (by omega) c474
          refine lv_goto (tgt := 1241) hx hb dL_law_489 (by decide) ?_
          exact kk rn L0 L1 _ _ _ _ _ ⟨f0, f1, n2, f2, n3, f3, 1, sf, lf, mn, rf, nf, ct, il, gf, fo, hP, hD, hS, hR0, hR1, hl0, hl1, hrn, hr6, hk0, hk1, hW⟩ (by omega) (by omega) (lv_sub hl [2, 3, 4, 5, 6] rfl)
        · exact absurd c474 (by decide)
      · exact absurd (by decide) c467
    · refine lv_aload_n hx hb dL_law_424 rfl (lv_at hl 3 rfl) ?_
      refine lv_aload_n hx hb dL_law_425 rfl (lv_at hl 4 rfl) ?_
      refine lv_iload hx hb dL_law_426 (lv_at hl 0 rfl) ?_
      refine lv_iconst (v := 1) hx hb dL_law_428 (by decide) ?_
      refine lv_iadd hx hb dL_law_429 ?_
      rw [show (nI i) + 1 = nI (i + 1) from nI_add i 1]
      refine va_sld hx hb hX hbl hbA hS (vp_in_nI (by omega) (by omega)) dL_law_430 ?_
      rw [show (nI (i + 1)).toNatClampNeg = i + 1 from nI_clamp (by omega)]
      rw [h1]
      refine lv_aload_n hx hb dL_law_431 rfl (lv_at hl 4 rfl) ?_
      refine lv_iload hx hb dL_law_432 (lv_at hl 0 rfl) ?_
      refine lv_iconst (v := 2) hx hb dL_law_434 (by decide) ?_
      refine lv_iadd hx hb dL_law_435 ?_
      rw [show (nI i) + 2 = nI (i + 2) from nI_add i 2]
      refine va_sld hx hb hX hbl hbA hS (vp_in_nI (by omega) (by omega)) dL_law_436 ?_
      rw [show (nI (i + 2)).toNatClampNeg = i + 2 from nI_clamp (by omega)]
      refine lv_aload_n hx hb dL_law_437 rfl (lv_at hl 1 rfl) ?_
      refine g_LS (As := [.ref x0, .int (nI 1), .int (xs (i + 2)), .ref o]) (rest := []) ⟨hx, hb, hml, hown, hts⟩ (mt_L_swap_1b_1 l htr dC dI cA cL H.size x0 r0 r1 r2 r3 rn a1 L1 f1 (xs (i + 2)) o fo hR1 (pl_bad hl1 (Or.inr hbad))) (vx_cwSW 4 hts gL_law_L_swap rfl rfl rfl hdL_swap ⟨Nat.le_of_ble_eq_true rfl, Nat.le_of_ble_eq_true rfl⟩) hP hKl hD hS hA hZ [0, 3, 4, 15] (by decide) rfl rfl hl.1 rfl (Nat.le_of_ble_eq_true rfl) dL_law_438 hc1 hs1 (fun u9 => [(x0, .inr (1, [.ref r0, .ref r1, .ref r2, .ref r3, .int (nI rn)])), (r0, .inr (0, [.ref a0, .int (nI L0.length)])), (a0, .inl (cA, (100, .inl f0))), (r1, .inr (0, [.ref a1, .int (nI L1.length)])), (a1, .inl (cA, (100, .inl f1))), (r2, .inr (0, [.ref a2, .int n2])), (a2, .inl (cA, (100, .inl f2))), (r3, .inr (0, [.ref a3, .int n3])), (a3, .inl (cA, (100, .inl f3))), (y0, .inr (2, [.int tv, .int (nI rn), .ref q1, .ref q2, .int mn, .ref q3, .ref q4, .int ct, .int il, .ref q5])), (q1, .inl (cA, (2, .inl sf))), (q2, .inl (cA, (60, .inl lf))), (q3, .inl (cA, (320, .inl rf))), (q4, .inl (cA, (320, .inl nf))), (q5, .inl (cA, (6, .inl gf))), (o, .inl (cL, (1, .inr (.inl fo))))]) (fun _ => rfl) (fun _ => rfl) (fun u H locs hw_1 hP hD hS => ?_)
      have hP : va_P (dC, dI) vwCl [(x0, .inr (1, [.ref r0, .ref r1, .ref r2, .ref r3, .int (nI rn)])), (r0, .inr (0, [.ref a0, .int (nI L0.length)])), (a0, .inl (cA, (100, .inl f0))), (r1, .inr (0, [.ref a1, .int (nI L1.length)])), (a1, .inl (cA, (100, .inl f1))), (r2, .inr (0, [.ref a2, .int n2])), (a2, .inl (cA, (100, .inl f2))), (r3, .inr (0, [.ref a3, .int n3])), (a3, .inl (cA, (100, .inl f3))), (y0, .inr (2, [.int tv, .int (nI rn), .ref q1, .ref q2, .int mn, .ref q3, .ref q4, .int ct, .int il, .ref q5])), (q1, .inl (cA, (2, .inl sf))), (q2, .inl (cA, (60, .inl lf))), (q3, .inl (cA, (320, .inl rf))), (q4, .inl (cA, (320, .inl nf))), (q5, .inl (cA, (6, .inl gf))), (o, .inl (cL, (1, .inr (.inl fo))))] H := hP
      have hD : va_D A [(x0, .inr (1, [.ref r0, .ref r1, .ref r2, .ref r3, .int (nI rn)])), (r0, .inr (0, [.ref a0, .int (nI L0.length)])), (a0, .inl (cA, (100, .inl f0))), (r1, .inr (0, [.ref a1, .int (nI L1.length)])), (a1, .inl (cA, (100, .inl f1))), (r2, .inr (0, [.ref a2, .int n2])), (a2, .inl (cA, (100, .inl f2))), (r3, .inr (0, [.ref a3, .int n3])), (a3, .inl (cA, (100, .inl f3))), (y0, .inr (2, [.int tv, .int (nI rn), .ref q1, .ref q2, .int mn, .ref q3, .ref q4, .int ct, .int il, .ref q5])), (q1, .inl (cA, (2, .inl sf))), (q2, .inl (cA, (60, .inl lf))), (q3, .inl (cA, (320, .inl rf))), (q4, .inl (cA, (320, .inl nf))), (q5, .inl (cA, (6, .inl gf))), (o, .inl (cL, (1, .inr (.inl fo))))] := hD
      refine lv_istore (lv' := [(5, .int 1), (4, .int (nI i)), (3, .ref o), (2, .ref y0), (1, .ref x0), (0, .ref b)]) hx hb dL_law_441 hl (by decide) rfl (fun ls hl => ?_)
      refine lv_aload_n hx hb dL_law_443 rfl (lv_at hl 3 rfl) ?_
      refine lv_aload_n hx hb dL_law_444 rfl (lv_at hl 5 rfl) ?_
      refine lv_iload hx hb dL_law_445 (lv_at hl 1 rfl) ?_
      refine lv_iconst (v := 1) hx hb dL_law_447 (by decide) ?_
      refine lv_iadd hx hb dL_law_448 ?_
      rw [show (nI i) + 1 = nI (i + 1) from nI_add i 1]
      refine va_sld hx hb hX hbl hbA hS (vp_in_nI (by omega) (by omega)) dL_law_449 ?_
      rw [show (nI (i + 1)).toNatClampNeg = i + 1 from nI_clamp (by omega)]
      rw [h1]
      refine lv_aload_n hx hb dL_law_450 rfl (lv_at hl 5 rfl) ?_
      refine lv_iload hx hb dL_law_451 (lv_at hl 1 rfl) ?_
      refine lv_iconst (v := 2) hx hb dL_law_453 (by decide) ?_
      refine lv_iadd hx hb dL_law_454 ?_
      rw [show (nI i) + 2 = nI (i + 2) from nI_add i 2]
      refine va_sld hx hb hX hbl hbA hS (vp_in_nI (by omega) (by omega)) dL_law_455 ?_
      rw [show (nI (i + 2)).toNatClampNeg = i + 2 from nI_clamp (by omega)]
      refine g_MVi (As := [.int (nI 1), .int (xs (i + 2))]) (rest := []) ⟨hx, hb, hml, hown, hts⟩ (mt_X2_swap_1b l dC dI cA H.size y0 q1 q2 q3 q4 q5 rn tv sf lf mn rf nf ct il gf (V2 L0 L1) 1 (xs (i + 2)) hW (by omega) (Or.inr hbad)) (cwV 2 hts gL_law_X2_swap rfl rfl rfl hdX2_swap ⟨Nat.le_of_ble_eq_true rfl, Nat.le_of_ble_eq_true rfl⟩) hP hK hD hS hA [9, 10, 11, 12, 13, 14] (by decide) rfl (va_recv hK hP (ci := 2) (q0 := 9) rfl rfl) rfl hl.1 rfl (Nat.le_of_ble_eq_true rfl) dL_law_456 hc1 hs1 (fun u9 => [(x0, .inr (1, [.ref r0, .ref r1, .ref r2, .ref r3, .int (nI rn)])), (r0, .inr (0, [.ref a0, .int (nI L0.length)])), (a0, .inl (cA, (100, .inl f0))), (r1, .inr (0, [.ref a1, .int (nI L1.length)])), (a1, .inl (cA, (100, .inl f1))), (r2, .inr (0, [.ref a2, .int n2])), (a2, .inl (cA, (100, .inl f2))), (r3, .inr (0, [.ref a3, .int n3])), (a3, .inl (cA, (100, .inl f3))), (y0, .inr (2, [.int 1, .int (nI rn), .ref q1, .ref q2, .int mn, .ref q3, .ref q4, .int ct, .int il, .ref q5])), (q1, .inl (cA, (2, .inl sf))), (q2, .inl (cA, (60, .inl lf))), (q3, .inl (cA, (320, .inl rf))), (q4, .inl (cA, (320, .inl nf))), (q5, .inl (cA, (6, .inl gf))), (o, .inl (cL, (1, .inr (.inl fo))))]) (fun _ => rfl) (fun _ => rfl) (fun u H locs hw_2 hP hD hS => ?_)
      have hw_2 : True := hw_2
      have hP : va_P (dC, dI) vwCl [(x0, .inr (1, [.ref r0, .ref r1, .ref r2, .ref r3, .int (nI rn)])), (r0, .inr (0, [.ref a0, .int (nI L0.length)])), (a0, .inl (cA, (100, .inl f0))), (r1, .inr (0, [.ref a1, .int (nI L1.length)])), (a1, .inl (cA, (100, .inl f1))), (r2, .inr (0, [.ref a2, .int n2])), (a2, .inl (cA, (100, .inl f2))), (r3, .inr (0, [.ref a3, .int n3])), (a3, .inl (cA, (100, .inl f3))), (y0, .inr (2, [.int 1, .int (nI rn), .ref q1, .ref q2, .int mn, .ref q3, .ref q4, .int ct, .int il, .ref q5])), (q1, .inl (cA, (2, .inl sf))), (q2, .inl (cA, (60, .inl lf))), (q3, .inl (cA, (320, .inl rf))), (q4, .inl (cA, (320, .inl nf))), (q5, .inl (cA, (6, .inl gf))), (o, .inl (cL, (1, .inr (.inl fo))))] H := hP
      have hD : va_D A [(x0, .inr (1, [.ref r0, .ref r1, .ref r2, .ref r3, .int (nI rn)])), (r0, .inr (0, [.ref a0, .int (nI L0.length)])), (a0, .inl (cA, (100, .inl f0))), (r1, .inr (0, [.ref a1, .int (nI L1.length)])), (a1, .inl (cA, (100, .inl f1))), (r2, .inr (0, [.ref a2, .int n2])), (a2, .inl (cA, (100, .inl f2))), (r3, .inr (0, [.ref a3, .int n3])), (a3, .inl (cA, (100, .inl f3))), (y0, .inr (2, [.int 1, .int (nI rn), .ref q1, .ref q2, .int mn, .ref q3, .ref q4, .int ct, .int il, .ref q5])), (q1, .inl (cA, (2, .inl sf))), (q2, .inl (cA, (60, .inl lf))), (q3, .inl (cA, (320, .inl rf))), (q4, .inl (cA, (320, .inl nf))), (q5, .inl (cA, (6, .inl gf))), (o, .inl (cL, (1, .inr (.inl fo))))] := hD
      refine lv_istore (lv' := [(6, .int 0), (5, .int 1), (4, .int (nI i)), (3, .ref o), (2, .ref y0), (1, .ref x0), (0, .ref b)]) hx hb dL_law_459 hl (by decide) rfl (fun ls hl => ?_)
      refine lv_aload_n hx hb dL_law_461 rfl (lv_at hl 4 rfl) ?_
      refine g_RVi (As := []) (rest := []) ⟨hx, hb, hml, hown, hts⟩ (mt_X2_thrown l dC dI cA H.size y0 q1 q2 q3 q4 q5 rn 1 sf lf mn rf nf ct il gf) (cwV 0 hts gL_law_X2_thrown rfl rfl rfl hdX2_thrown ⟨Nat.le_of_ble_eq_true rfl, Nat.le_of_ble_eq_true rfl⟩) hP hK hD [9, 10, 11, 12, 13, 14] (by decide) rfl (va_recv hK hP (ci := 2) (q0 := 9) rfl rfl) rfl hl.1 rfl (Nat.le_of_ble_eq_true rfl) dL_law_462 hc1 hs1 ?_
      refine lv_iload hx hb dL_law_465 (lv_at hl 1 rfl) ?_
      refine lv_icmp_eq (tgt := 472) hx hb dL_law_467 (by decide) (fun c467 => ?_) (fun c467 => ?_)
      · refine lv_iload hx hb dL_law_472 (lv_at hl 1 rfl) ?_
        refine lv_if_ne (tgt := 489) hx hb dL_law_474 (by decide) (fun c474 => ?_) (fun c474 => ?_)
        · have c474 : ¬ 1 = 0 := g_neT 1 0 (by omega) (by omega) c474
          refine lv_goto (tgt := 1241) hx hb dL_law_489 (by decide) ?_
          exact kk rn L0 L1 _ _ _ _ _ ⟨f0, f1, n2, f2, n3, f3, 1, sf, lf, mn, rf, nf, ct, il, gf, fo, hP, hD, hS, hR0, hR1, hl0, hl1, hrn, hr6, hk0, hk1, hW⟩ (by omega) (by omega) (lv_sub hl [2, 3, 4, 5, 6] rfl)
        · exact absurd c474 (by decide)
      · exact absurd (by decide) c467
    · by_cases hap : abI (abI (atL L1 k) - abI (atL L1 (k + 1))) < 2
      · refine lv_aload_n hx hb dL_law_424 rfl (lv_at hl 3 rfl) ?_
        refine lv_aload_n hx hb dL_law_425 rfl (lv_at hl 4 rfl) ?_
        refine lv_iload hx hb dL_law_426 (lv_at hl 0 rfl) ?_
        refine lv_iconst (v := 1) hx hb dL_law_428 (by decide) ?_
        refine lv_iadd hx hb dL_law_429 ?_
        rw [show (nI i) + 1 = nI (i + 1) from nI_add i 1]
        refine va_sld hx hb hX hbl hbA hS (vp_in_nI (by omega) (by omega)) dL_law_430 ?_
        rw [show (nI (i + 1)).toNatClampNeg = i + 1 from nI_clamp (by omega)]
        rw [h1]
        refine lv_aload_n hx hb dL_law_431 rfl (lv_at hl 4 rfl) ?_
        refine lv_iload hx hb dL_law_432 (lv_at hl 0 rfl) ?_
        refine lv_iconst (v := 2) hx hb dL_law_434 (by decide) ?_
        refine lv_iadd hx hb dL_law_435 ?_
        rw [show (nI i) + 2 = nI (i + 2) from nI_add i 2]
        refine va_sld hx hb hX hbl hbA hS (vp_in_nI (by omega) (by omega)) dL_law_436 ?_
        rw [show (nI (i + 2)).toNatClampNeg = i + 2 from nI_clamp (by omega)]
        rw [h2]
        refine lv_aload_n hx hb dL_law_437 rfl (lv_at hl 1 rfl) ?_
        refine g_LS (As := [.ref x0, .int (nI 1), .int (nI k), .ref o]) (rest := []) ⟨hx, hb, hml, hown, hts⟩ (mt_L_swap_2_1 l htr dC dI cA cL H.size x0 r0 r1 r2 r3 rn a1 L1 f1 k o fo hR1 (by omega) hap) (vx_cwSW 4 hts gL_law_L_swap rfl rfl rfl hdL_swap ⟨Nat.le_of_ble_eq_true rfl, Nat.le_of_ble_eq_true rfl⟩) hP hKl hD hS hA hZ [0, 3, 4, 15] (by decide) rfl rfl hl.1 rfl (Nat.le_of_ble_eq_true rfl) dL_law_438 hc1 hs1 (fun u9 => [(x0, .inr (1, [.ref r0, .ref r1, .ref r2, .ref r3, .int (nI rn)])), (r0, .inr (0, [.ref a0, .int (nI L0.length)])), (a0, .inl (cA, (100, .inl f0))), (r1, .inr (0, [.ref a1, .int (nI L1.length)])), (a1, .inl (cA, (100, .inl f1))), (r2, .inr (0, [.ref a2, .int n2])), (a2, .inl (cA, (100, .inl f2))), (r3, .inr (0, [.ref a3, .int n3])), (a3, .inl (cA, (100, .inl f3))), (y0, .inr (2, [.int tv, .int (nI rn), .ref q1, .ref q2, .int mn, .ref q3, .ref q4, .int ct, .int il, .ref q5])), (q1, .inl (cA, (2, .inl sf))), (q2, .inl (cA, (60, .inl lf))), (q3, .inl (cA, (320, .inl rf))), (q4, .inl (cA, (320, .inl nf))), (q5, .inl (cA, (6, .inl gf))), (o, .inl (cL, (1, .inr (.inl fo))))]) (fun _ => rfl) (fun _ => rfl) (fun u H locs hw_1 hP hD hS => ?_)
        have hP : va_P (dC, dI) vwCl [(x0, .inr (1, [.ref r0, .ref r1, .ref r2, .ref r3, .int (nI rn)])), (r0, .inr (0, [.ref a0, .int (nI L0.length)])), (a0, .inl (cA, (100, .inl f0))), (r1, .inr (0, [.ref a1, .int (nI L1.length)])), (a1, .inl (cA, (100, .inl f1))), (r2, .inr (0, [.ref a2, .int n2])), (a2, .inl (cA, (100, .inl f2))), (r3, .inr (0, [.ref a3, .int n3])), (a3, .inl (cA, (100, .inl f3))), (y0, .inr (2, [.int tv, .int (nI rn), .ref q1, .ref q2, .int mn, .ref q3, .ref q4, .int ct, .int il, .ref q5])), (q1, .inl (cA, (2, .inl sf))), (q2, .inl (cA, (60, .inl lf))), (q3, .inl (cA, (320, .inl rf))), (q4, .inl (cA, (320, .inl nf))), (q5, .inl (cA, (6, .inl gf))), (o, .inl (cL, (1, .inr (.inl fo))))] H := hP
        have hD : va_D A [(x0, .inr (1, [.ref r0, .ref r1, .ref r2, .ref r3, .int (nI rn)])), (r0, .inr (0, [.ref a0, .int (nI L0.length)])), (a0, .inl (cA, (100, .inl f0))), (r1, .inr (0, [.ref a1, .int (nI L1.length)])), (a1, .inl (cA, (100, .inl f1))), (r2, .inr (0, [.ref a2, .int n2])), (a2, .inl (cA, (100, .inl f2))), (r3, .inr (0, [.ref a3, .int n3])), (a3, .inl (cA, (100, .inl f3))), (y0, .inr (2, [.int tv, .int (nI rn), .ref q1, .ref q2, .int mn, .ref q3, .ref q4, .int ct, .int il, .ref q5])), (q1, .inl (cA, (2, .inl sf))), (q2, .inl (cA, (60, .inl lf))), (q3, .inl (cA, (320, .inl rf))), (q4, .inl (cA, (320, .inl nf))), (q5, .inl (cA, (6, .inl gf))), (o, .inl (cL, (1, .inr (.inl fo))))] := hD
        refine lv_istore (lv' := [(5, .int 2), (4, .int (nI i)), (3, .ref o), (2, .ref y0), (1, .ref x0), (0, .ref b)]) hx hb dL_law_441 hl (by decide) rfl (fun ls hl => ?_)
        refine lv_aload_n hx hb dL_law_443 rfl (lv_at hl 3 rfl) ?_
        refine lv_aload_n hx hb dL_law_444 rfl (lv_at hl 5 rfl) ?_
        refine lv_iload hx hb dL_law_445 (lv_at hl 1 rfl) ?_
        refine lv_iconst (v := 1) hx hb dL_law_447 (by decide) ?_
        refine lv_iadd hx hb dL_law_448 ?_
        rw [show (nI i) + 1 = nI (i + 1) from nI_add i 1]
        refine va_sld hx hb hX hbl hbA hS (vp_in_nI (by omega) (by omega)) dL_law_449 ?_
        rw [show (nI (i + 1)).toNatClampNeg = i + 1 from nI_clamp (by omega)]
        rw [h1]
        refine lv_aload_n hx hb dL_law_450 rfl (lv_at hl 5 rfl) ?_
        refine lv_iload hx hb dL_law_451 (lv_at hl 1 rfl) ?_
        refine lv_iconst (v := 2) hx hb dL_law_453 (by decide) ?_
        refine lv_iadd hx hb dL_law_454 ?_
        rw [show (nI i) + 2 = nI (i + 2) from nI_add i 2]
        refine va_sld hx hb hX hbl hbA hS (vp_in_nI (by omega) (by omega)) dL_law_455 ?_
        rw [show (nI (i + 2)).toNatClampNeg = i + 2 from nI_clamp (by omega)]
        rw [h2]
        refine g_MVi (As := [.int (nI 1), .int (nI k)]) (rest := []) ⟨hx, hb, hml, hown, hts⟩ (mt_X2_swap_2 l dC dI cA H.size y0 q1 q2 q3 q4 q5 rn tv sf lf mn rf nf ct il gf (V2 L0 L1) 1 k hW (by omega) (show k + 1 < L1.length from by omega) hap) (cwV 2 hts gL_law_X2_swap rfl rfl rfl hdX2_swap ⟨Nat.le_of_ble_eq_true rfl, Nat.le_of_ble_eq_true rfl⟩) hP hK hD hS hA [9, 10, 11, 12, 13, 14] (by decide) rfl (va_recv hK hP (ci := 2) (q0 := 9) rfl rfl) rfl hl.1 rfl (Nat.le_of_ble_eq_true rfl) dL_law_456 hc1 hs1 (fun u9 => [(x0, .inr (1, [.ref r0, .ref r1, .ref r2, .ref r3, .int (nI rn)])), (r0, .inr (0, [.ref a0, .int (nI L0.length)])), (a0, .inl (cA, (100, .inl f0))), (r1, .inr (0, [.ref a1, .int (nI L1.length)])), (a1, .inl (cA, (100, .inl f1))), (r2, .inr (0, [.ref a2, .int n2])), (a2, .inl (cA, (100, .inl f2))), (r3, .inr (0, [.ref a3, .int n3])), (a3, .inl (cA, (100, .inl f3))), (y0, .inr (2, [.int 2, .int (nI rn), .ref q1, .ref q2, .int mn, .ref q3, .ref q4, .int ct, .int il, .ref q5])), (q1, .inl (cA, (2, .inl sf))), (q2, .inl (cA, (60, .inl lf))), (q3, .inl (cA, (320, .inl rf))), (q4, .inl (cA, (320, .inl nf))), (q5, .inl (cA, (6, .inl gf))), (o, .inl (cL, (1, .inr (.inl fo))))]) (fun _ => rfl) (fun _ => rfl) (fun u H locs hw_2 hP hD hS => ?_)
        have hw_2 : True := hw_2
        have hP : va_P (dC, dI) vwCl [(x0, .inr (1, [.ref r0, .ref r1, .ref r2, .ref r3, .int (nI rn)])), (r0, .inr (0, [.ref a0, .int (nI L0.length)])), (a0, .inl (cA, (100, .inl f0))), (r1, .inr (0, [.ref a1, .int (nI L1.length)])), (a1, .inl (cA, (100, .inl f1))), (r2, .inr (0, [.ref a2, .int n2])), (a2, .inl (cA, (100, .inl f2))), (r3, .inr (0, [.ref a3, .int n3])), (a3, .inl (cA, (100, .inl f3))), (y0, .inr (2, [.int 2, .int (nI rn), .ref q1, .ref q2, .int mn, .ref q3, .ref q4, .int ct, .int il, .ref q5])), (q1, .inl (cA, (2, .inl sf))), (q2, .inl (cA, (60, .inl lf))), (q3, .inl (cA, (320, .inl rf))), (q4, .inl (cA, (320, .inl nf))), (q5, .inl (cA, (6, .inl gf))), (o, .inl (cL, (1, .inr (.inl fo))))] H := hP
        have hD : va_D A [(x0, .inr (1, [.ref r0, .ref r1, .ref r2, .ref r3, .int (nI rn)])), (r0, .inr (0, [.ref a0, .int (nI L0.length)])), (a0, .inl (cA, (100, .inl f0))), (r1, .inr (0, [.ref a1, .int (nI L1.length)])), (a1, .inl (cA, (100, .inl f1))), (r2, .inr (0, [.ref a2, .int n2])), (a2, .inl (cA, (100, .inl f2))), (r3, .inr (0, [.ref a3, .int n3])), (a3, .inl (cA, (100, .inl f3))), (y0, .inr (2, [.int 2, .int (nI rn), .ref q1, .ref q2, .int mn, .ref q3, .ref q4, .int ct, .int il, .ref q5])), (q1, .inl (cA, (2, .inl sf))), (q2, .inl (cA, (60, .inl lf))), (q3, .inl (cA, (320, .inl rf))), (q4, .inl (cA, (320, .inl nf))), (q5, .inl (cA, (6, .inl gf))), (o, .inl (cL, (1, .inr (.inl fo))))] := hD
        refine lv_istore (lv' := [(6, .int 0), (5, .int 2), (4, .int (nI i)), (3, .ref o), (2, .ref y0), (1, .ref x0), (0, .ref b)]) hx hb dL_law_459 hl (by decide) rfl (fun ls hl => ?_)
        refine lv_aload_n hx hb dL_law_461 rfl (lv_at hl 4 rfl) ?_
        refine g_RVi (As := []) (rest := []) ⟨hx, hb, hml, hown, hts⟩ (mt_X2_thrown l dC dI cA H.size y0 q1 q2 q3 q4 q5 rn 2 sf lf mn rf nf ct il gf) (cwV 0 hts gL_law_X2_thrown rfl rfl rfl hdX2_thrown ⟨Nat.le_of_ble_eq_true rfl, Nat.le_of_ble_eq_true rfl⟩) hP hK hD [9, 10, 11, 12, 13, 14] (by decide) rfl (va_recv hK hP (ci := 2) (q0 := 9) rfl rfl) rfl hl.1 rfl (Nat.le_of_ble_eq_true rfl) dL_law_462 hc1 hs1 ?_
        refine lv_iload hx hb dL_law_465 (lv_at hl 1 rfl) ?_
        refine lv_icmp_eq (tgt := 472) hx hb dL_law_467 (by decide) (fun c467 => ?_) (fun c467 => ?_)
        · refine lv_iload hx hb dL_law_472 (lv_at hl 1 rfl) ?_
          refine lv_if_ne (tgt := 489) hx hb dL_law_474 (by decide) (fun c474 => ?_) (fun c474 => ?_)
          · have c474 : ¬ 2 = 0 := g_neT 2 0 (by omega) (by omega) c474
            refine lv_goto (tgt := 1241) hx hb dL_law_489 (by decide) ?_
            exact kk rn L0 L1 _ _ _ _ _ ⟨f0, f1, n2, f2, n3, f3, 2, sf, lf, mn, rf, nf, ct, il, gf, fo, hP, hD, hS, hR0, hR1, hl0, hl1, hrn, hr6, hk0, hk1, hW⟩ (by omega) (by omega) (lv_sub hl [2, 3, 4, 5, 6] rfl)
          · exact absurd c474 (by decide)
        · exact absurd (by decide) c467
      · refine lv_aload_n hx hb dL_law_424 rfl (lv_at hl 3 rfl) ?_
        refine lv_aload_n hx hb dL_law_425 rfl (lv_at hl 4 rfl) ?_
        refine lv_iload hx hb dL_law_426 (lv_at hl 0 rfl) ?_
        refine lv_iconst (v := 1) hx hb dL_law_428 (by decide) ?_
        refine lv_iadd hx hb dL_law_429 ?_
        rw [show (nI i) + 1 = nI (i + 1) from nI_add i 1]
        refine va_sld hx hb hX hbl hbA hS (vp_in_nI (by omega) (by omega)) dL_law_430 ?_
        rw [show (nI (i + 1)).toNatClampNeg = i + 1 from nI_clamp (by omega)]
        rw [h1]
        refine lv_aload_n hx hb dL_law_431 rfl (lv_at hl 4 rfl) ?_
        refine lv_iload hx hb dL_law_432 (lv_at hl 0 rfl) ?_
        refine lv_iconst (v := 2) hx hb dL_law_434 (by decide) ?_
        refine lv_iadd hx hb dL_law_435 ?_
        rw [show (nI i) + 2 = nI (i + 2) from nI_add i 2]
        refine va_sld hx hb hX hbl hbA hS (vp_in_nI (by omega) (by omega)) dL_law_436 ?_
        rw [show (nI (i + 2)).toNatClampNeg = i + 2 from nI_clamp (by omega)]
        rw [h2]
        refine lv_aload_n hx hb dL_law_437 rfl (lv_at hl 1 rfl) ?_
        refine g_LS (As := [.ref x0, .int (nI 1), .int (nI k), .ref o]) (rest := []) ⟨hx, hb, hml, hown, hts⟩ (mt_L_swap1 l htr dC dI cA cL H.size x0 r0 r1 r2 r3 rn a1 L1 f1 k o fo hR1 (by omega) hap) (vx_cwSW 4 hts gL_law_L_swap rfl rfl rfl hdL_swap ⟨Nat.le_of_ble_eq_true rfl, Nat.le_of_ble_eq_true rfl⟩) hP hKl hD hS hA hZ [0, 3, 4, 15] (by decide) rfl rfl hl.1 rfl (Nat.le_of_ble_eq_true rfl) dL_law_438 hc0 hs0 (fun u9 => [(x0, .inr (1, [.ref r0, .ref r1, .ref r2, .ref r3, .int (nI rn)])), (r0, .inr (0, [.ref a0, .int (nI L0.length)])), (a0, .inl (cA, (100, .inl f0))), (r1, .inr (0, [.ref a1, .int (nI (((L1.set k (atL L1 (k + 1))).set (k + 1) (atL L1 k)).length))])), (a1, .inl (cA, (100, .inl u9))), (r2, .inr (0, [.ref a2, .int n2])), (a2, .inl (cA, (100, .inl f2))), (r3, .inr (0, [.ref a3, .int n3])), (a3, .inl (cA, (100, .inl f3))), (y0, .inr (2, [.int tv, .int (nI rn), .ref q1, .ref q2, .int mn, .ref q3, .ref q4, .int ct, .int il, .ref q5])), (q1, .inl (cA, (2, .inl sf))), (q2, .inl (cA, (60, .inl lf))), (q3, .inl (cA, (320, .inl rf))), (q4, .inl (cA, (320, .inl nf))), (q5, .inl (cA, (6, .inl gf))), (o, .inl (cL, (1, .inr (.inl (vp_updL fo 0 (atL L1 (k + 1)).toInt64)))))]) (fun _ => rfl) (fun _ => rfl) (fun u H locs hw_2 hP hD hS => ?_)
        obtain ⟨f1_1, rfl⟩ : ∃ z, z = u := ⟨_, rfl⟩
        have hw_2 : RI ((L1.set k (atL L1 (k + 1))).set (k + 1) (atL L1 k)) f1_1 := hw_2
        have hP : va_P (dC, dI) vwCl [(x0, .inr (1, [.ref r0, .ref r1, .ref r2, .ref r3, .int (nI rn)])), (r0, .inr (0, [.ref a0, .int (nI L0.length)])), (a0, .inl (cA, (100, .inl f0))), (r1, .inr (0, [.ref a1, .int (nI (((L1.set k (atL L1 (k + 1))).set (k + 1) (atL L1 k)).length))])), (a1, .inl (cA, (100, .inl f1_1))), (r2, .inr (0, [.ref a2, .int n2])), (a2, .inl (cA, (100, .inl f2))), (r3, .inr (0, [.ref a3, .int n3])), (a3, .inl (cA, (100, .inl f3))), (y0, .inr (2, [.int tv, .int (nI rn), .ref q1, .ref q2, .int mn, .ref q3, .ref q4, .int ct, .int il, .ref q5])), (q1, .inl (cA, (2, .inl sf))), (q2, .inl (cA, (60, .inl lf))), (q3, .inl (cA, (320, .inl rf))), (q4, .inl (cA, (320, .inl nf))), (q5, .inl (cA, (6, .inl gf))), (o, .inl (cL, (1, .inr (.inl (vp_updL fo 0 (atL L1 (k + 1)).toInt64)))))] H := hP
        have hD : va_D A [(x0, .inr (1, [.ref r0, .ref r1, .ref r2, .ref r3, .int (nI rn)])), (r0, .inr (0, [.ref a0, .int (nI L0.length)])), (a0, .inl (cA, (100, .inl f0))), (r1, .inr (0, [.ref a1, .int (nI (((L1.set k (atL L1 (k + 1))).set (k + 1) (atL L1 k)).length))])), (a1, .inl (cA, (100, .inl f1_1))), (r2, .inr (0, [.ref a2, .int n2])), (a2, .inl (cA, (100, .inl f2))), (r3, .inr (0, [.ref a3, .int n3])), (a3, .inl (cA, (100, .inl f3))), (y0, .inr (2, [.int tv, .int (nI rn), .ref q1, .ref q2, .int mn, .ref q3, .ref q4, .int ct, .int il, .ref q5])), (q1, .inl (cA, (2, .inl sf))), (q2, .inl (cA, (60, .inl lf))), (q3, .inl (cA, (320, .inl rf))), (q4, .inl (cA, (320, .inl nf))), (q5, .inl (cA, (6, .inl gf))), (o, .inl (cL, (1, .inr (.inl (vp_updL fo 0 (atL L1 (k + 1)).toInt64)))))] := hD
        refine lv_istore (lv' := [(5, .int 0), (4, .int (nI i)), (3, .ref o), (2, .ref y0), (1, .ref x0), (0, .ref b)]) hx hb dL_law_441 hl (by decide) rfl (fun ls hl => ?_)
        refine lv_aload_n hx hb dL_law_443 rfl (lv_at hl 3 rfl) ?_
        refine lv_aload_n hx hb dL_law_444 rfl (lv_at hl 5 rfl) ?_
        refine lv_iload hx hb dL_law_445 (lv_at hl 1 rfl) ?_
        refine lv_iconst (v := 1) hx hb dL_law_447 (by decide) ?_
        refine lv_iadd hx hb dL_law_448 ?_
        rw [show (nI i) + 1 = nI (i + 1) from nI_add i 1]
        refine va_sld hx hb hX hbl hbA hS (vp_in_nI (by omega) (by omega)) dL_law_449 ?_
        rw [show (nI (i + 1)).toNatClampNeg = i + 1 from nI_clamp (by omega)]
        rw [h1]
        refine lv_aload_n hx hb dL_law_450 rfl (lv_at hl 5 rfl) ?_
        refine lv_iload hx hb dL_law_451 (lv_at hl 1 rfl) ?_
        refine lv_iconst (v := 2) hx hb dL_law_453 (by decide) ?_
        refine lv_iadd hx hb dL_law_454 ?_
        rw [show (nI i) + 2 = nI (i + 2) from nI_add i 2]
        refine va_sld hx hb hX hbl hbA hS (vp_in_nI (by omega) (by omega)) dL_law_455 ?_
        rw [show (nI (i + 2)).toNatClampNeg = i + 2 from nI_clamp (by omega)]
        rw [h2]
        refine g_MVi (As := [.int (nI 1), .int (nI k)]) (rest := []) ⟨hx, hb, hml, hown, hts⟩ (mt_X2_swap l dC dI cA H.size y0 q1 q2 q3 q4 q5 rn tv sf lf mn rf nf ct il gf (V2 L0 L1) 1 k hW (by omega) (show k + 1 < L1.length from by omega) hap) (cwV 2 hts gL_law_X2_swap rfl rfl rfl hdX2_swap ⟨Nat.le_of_ble_eq_true rfl, Nat.le_of_ble_eq_true rfl⟩) hP hK hD hS hA [9, 10, 11, 12, 13, 14] (by decide) rfl (va_recv hK hP (ci := 2) (q0 := 9) rfl rfl) rfl hl.1 rfl (Nat.le_of_ble_eq_true rfl) dL_law_456 hc0 hs0 (fun u9 => [(x0, .inr (1, [.ref r0, .ref r1, .ref r2, .ref r3, .int (nI rn)])), (r0, .inr (0, [.ref a0, .int (nI L0.length)])), (a0, .inl (cA, (100, .inl f0))), (r1, .inr (0, [.ref a1, .int (nI (((L1.set k (atL L1 (k + 1))).set (k + 1) (atL L1 k)).length))])), (a1, .inl (cA, (100, .inl f1_1))), (r2, .inr (0, [.ref a2, .int n2])), (a2, .inl (cA, (100, .inl f2))), (r3, .inr (0, [.ref a3, .int n3])), (a3, .inl (cA, (100, .inl f3))), (y0, .inr (2, [.int 0, .int (nI rn), .ref q1, .ref q2, .int mn, .ref q3, .ref q4, .int ct, .int il, .ref q5])), (q1, .inl (cA, (2, .inl sf))), (q2, .inl (cA, (60, .inl u9))), (q3, .inl (cA, (320, .inl rf))), (q4, .inl (cA, (320, .inl nf))), (q5, .inl (cA, (6, .inl gf))), (o, .inl (cL, (1, .inr (.inl (vp_updL fo 0 (atL L1 (k + 1)).toInt64)))))]) (fun _ => rfl) (fun _ => rfl) (fun u H locs hw_4 hP hD hS => ?_)
        obtain ⟨l1_3, rfl⟩ : ∃ z, z = u := ⟨_, rfl⟩
        have hw_4 : MW (upW (V2 L0 L1) 1 ((((V2 L0 L1) 1).set k (atL ((V2 L0 L1) 1) (k + 1))).set (k + 1) (atL ((V2 L0 L1) 1) k))) sf l1_3 := hw_4
        have hP : va_P (dC, dI) vwCl [(x0, .inr (1, [.ref r0, .ref r1, .ref r2, .ref r3, .int (nI rn)])), (r0, .inr (0, [.ref a0, .int (nI L0.length)])), (a0, .inl (cA, (100, .inl f0))), (r1, .inr (0, [.ref a1, .int (nI (((L1.set k (atL L1 (k + 1))).set (k + 1) (atL L1 k)).length))])), (a1, .inl (cA, (100, .inl f1_1))), (r2, .inr (0, [.ref a2, .int n2])), (a2, .inl (cA, (100, .inl f2))), (r3, .inr (0, [.ref a3, .int n3])), (a3, .inl (cA, (100, .inl f3))), (y0, .inr (2, [.int 0, .int (nI rn), .ref q1, .ref q2, .int mn, .ref q3, .ref q4, .int ct, .int il, .ref q5])), (q1, .inl (cA, (2, .inl sf))), (q2, .inl (cA, (60, .inl l1_3))), (q3, .inl (cA, (320, .inl rf))), (q4, .inl (cA, (320, .inl nf))), (q5, .inl (cA, (6, .inl gf))), (o, .inl (cL, (1, .inr (.inl (vp_updL fo 0 (atL L1 (k + 1)).toInt64)))))] H := hP
        have hD : va_D A [(x0, .inr (1, [.ref r0, .ref r1, .ref r2, .ref r3, .int (nI rn)])), (r0, .inr (0, [.ref a0, .int (nI L0.length)])), (a0, .inl (cA, (100, .inl f0))), (r1, .inr (0, [.ref a1, .int (nI (((L1.set k (atL L1 (k + 1))).set (k + 1) (atL L1 k)).length))])), (a1, .inl (cA, (100, .inl f1_1))), (r2, .inr (0, [.ref a2, .int n2])), (a2, .inl (cA, (100, .inl f2))), (r3, .inr (0, [.ref a3, .int n3])), (a3, .inl (cA, (100, .inl f3))), (y0, .inr (2, [.int 0, .int (nI rn), .ref q1, .ref q2, .int mn, .ref q3, .ref q4, .int ct, .int il, .ref q5])), (q1, .inl (cA, (2, .inl sf))), (q2, .inl (cA, (60, .inl l1_3))), (q3, .inl (cA, (320, .inl rf))), (q4, .inl (cA, (320, .inl nf))), (q5, .inl (cA, (6, .inl gf))), (o, .inl (cL, (1, .inr (.inl (vp_updL fo 0 (atL L1 (k + 1)).toInt64)))))] := hD
        refine lv_istore (lv' := [(6, .int (atL ((V2 L0 L1) 1) (k + 1))), (5, .int 0), (4, .int (nI i)), (3, .ref o), (2, .ref y0), (1, .ref x0), (0, .ref b)]) hx hb dL_law_459 hl (by decide) rfl (fun ls hl => ?_)
        refine lv_aload_n hx hb dL_law_461 rfl (lv_at hl 4 rfl) ?_
        refine g_RVi (As := []) (rest := []) ⟨hx, hb, hml, hown, hts⟩ (mt_X2_thrown l dC dI cA H.size y0 q1 q2 q3 q4 q5 rn 0 sf l1_3 mn rf nf ct il gf) (cwV 0 hts gL_law_X2_thrown rfl rfl rfl hdX2_thrown ⟨Nat.le_of_ble_eq_true rfl, Nat.le_of_ble_eq_true rfl⟩) hP hK hD [9, 10, 11, 12, 13, 14] (by decide) rfl (va_recv hK hP (ci := 2) (q0 := 9) rfl rfl) rfl hl.1 rfl (Nat.le_of_ble_eq_true rfl) dL_law_462 hc0 hs0 ?_
        refine lv_iload hx hb dL_law_465 (lv_at hl 1 rfl) ?_
        refine lv_icmp_eq (tgt := 472) hx hb dL_law_467 (by decide) (fun c467 => ?_) (fun c467 => ?_)
        · refine lv_iload hx hb dL_law_472 (lv_at hl 1 rfl) ?_
          refine lv_if_ne (tgt := 489) hx hb dL_law_474 (by decide) (fun c474 => ?_) (fun c474 => ?_)
          · exact absurd (by decide) c474
          · have c474 : 0 = 0 := g_neF 0 0 (by omega) (by omega) c474
            refine lv_aload_n hx hb dL_law_477 rfl (lv_at hl 3 rfl) ?_
            refine lv_iconst (v := 0) hx hb dL_law_478 (by decide) ?_
            refine va_lald hx hb hKl hP 15 1 rfl rfl (vp_in_nI (n := 0) (by omega) (by decide)) dL_law_479 ?_
            rw [show (0 : Int32).toNatClampNeg = 0 from by decide, pk_uLs]
            refine lv_iload hx hb dL_law_480 (lv_at hl 0 rfl) ?_
            refine lv_i2l (v := (atL ((V2 L0 L1) 1) (k + 1)).toInt64) hx hb dL_law_482 rfl ?_
            refine W.lcmp hx hb dL_law_483 ?_
            rw [show lg_cmp ((atL L1 (k + 1)).toInt64) ((atL ((V2 L0 L1) 1) (k + 1)).toInt64) = 0 from (lg_cmp_eq _ _).mpr rfl]
            refine lv_if_eq (tgt := 489) hx hb dL_law_484 (by decide) (fun c484 => ?_) (fun c484 => ?_)
            · have c484 : 0 = 0 := g_eqT 0 0 (by omega) (by omega) c484
              refine lv_goto (tgt := 1241) hx hb dL_law_489 (by decide) ?_
              exact kk rn L0 ((L1.set k (atL L1 (k + 1))).set (k + 1) (atL L1 k)) _ _ _ _ _ ⟨f0, f1_1, n2, f2, n3, f3, 0, sf, l1_3, mn, rf, nf, ct, il, gf, vp_updL fo 0 (atL L1 (k + 1)).toInt64, hP, hD, hS, hR0, hw_2, hl0, by rw [List.length_set, List.length_set]; exact hl1, hrn, hr6, hk0, okL_set (okL_set hk1 (okL_at hk1 (by omega))) (okL_at hk1 (by omega)), MW_c1 hw_4⟩ (by omega) (by omega) (lv_sub hl [2, 3, 4, 5, 6] rfl)
            · exact absurd (by decide) c484
        · exact absurd (by decide) c467

set_option maxHeartbeats 4000000 in
set_option maxRecDepth 100000 in
theorem lw_op_6 {p : Program} {l : Launch} {e : Env} {s : State} {m : MethodId} {below : List Frame} {meth : Method} {c : Code} {Q : State → Prop} {b L : Nat} {xs : Nat → Int32} {dC : Nat → ClassId} {dI : Nat → Nat → Nat} {cA cL : ClassId} {A : Nat → Prop} (E : lwE p l s m c b L xs dC dI cA cL A) {x0 r0 r1 r2 r3 a0 a1 a2 a3 y0 q1 q2 q3 q4 q5 o : Nat} {i : Nat} (hi : i + 4 ≤ L) {cells slots : Nat} (hC : cells + 1 ≤ 1053) (hS9 : slots + 6 ≤ 9402) {rn : Nat} {L0 L1 : List Int32} {H : Heap} {locs : List Loc} (hI : lwI dC dI cA cL A s.heap x0 r0 r1 r2 r3 a0 a1 a2 a3 y0 q1 q2 q3 q4 q5 o rn L0 L1 H locs) {ls : Array Slot} (hl : lv_has ls 9 [(4, .int (nI i)), (3, .ref o), (2, .ref y0), (1, .ref x0), (0, .ref b)])
    (kk : ∀ (rn : Nat) (L0 L1 : List Int32) (H : Heap) (locs : List Loc) (cells1 slots1 : Nat) (ls : Array Slot), lwI dC dI cA cL A s.heap x0 r0 r1 r2 r3 a0 a1 a2 a3 y0 q1 q2 q3 q4 q5 o rn L0 L1 H locs → cells1 ≤ cells + 1 → slots1 ≤ slots + 6 → lv_has ls 9 [(4, .int (nI i)), (3, .ref o), (2, .ref y0), (1, .ref x0), (0, .ref b)] → W p l e room_1 s m #[Value.ref b] below meth c H locs cells1 slots1 Q (F0 m 1241 ls [])) :
    W p l e room_1 s m #[Value.ref b] below meth c H locs cells slots Q (F0 m 492 ls []) := by
  obtain ⟨hx, hb, hml, hown, hts, hX, hbl, hbA, hA, htr, hKl, hZ, hL2⟩ := E
  obtain ⟨f0, f1, n2, f2, n3, f3, tv, sf, lf, mn, rf, nf, ct, il, gf, fo, hP, hD, hS, hR0, hR1, hl0, hl1, hrn, hr6, hk0, hk1, hW⟩ := hI
  have hK : va_K (dC, dI) vwCl [(cA, .int)] s := hKl.sub [0] rfl
  have hok := V2_ok hk0 hk1
  have hc0 : cells ≤ room_1.cells := (show cells ≤ 1053 from by omega)
  have hs0 : slots ≤ room_1.slots := (show slots ≤ 9402 from by omega)
  have hc1 : cells + 1 ≤ room_1.cells := hC
  have hs1 : slots + 6 ≤ room_1.slots := hS9
  rcases wd_ix (xs (i + 1)) with hbad | h1 | h1
  · refine lv_aload_n hx hb dL_law_492 rfl (lv_at hl 3 rfl) ?_
    refine lv_aload_n hx hb dL_law_493 rfl (lv_at hl 4 rfl) ?_
    refine lv_iload hx hb dL_law_494 (lv_at hl 0 rfl) ?_
    refine lv_iconst (v := 1) hx hb dL_law_496 (by decide) ?_
    refine lv_iadd hx hb dL_law_497 ?_
    rw [show (nI i) + 1 = nI (i + 1) from nI_add i 1]
    refine va_sld hx hb hX hbl hbA hS (vp_in_nI (by omega) (by omega)) dL_law_498 ?_
    rw [show (nI (i + 1)).toNatClampNeg = i + 1 from nI_clamp (by omega)]
    refine lv_aload_n hx hb dL_law_499 rfl (lv_at hl 4 rfl) ?_
    refine lv_iload hx hb dL_law_500 (lv_at hl 0 rfl) ?_
    refine lv_iconst (v := 2) hx hb dL_law_502 (by decide) ?_
    refine lv_iadd hx hb dL_law_503 ?_
    rw [show (nI i) + 2 = nI (i + 2) from nI_add i 2]
    refine va_sld hx hb hX hbl hbA hS (vp_in_nI (by omega) (by omega)) dL_law_504 ?_
    rw [show (nI (i + 2)).toNatClampNeg = i + 2 from nI_clamp (by omega)]
    refine lv_aload_n hx hb dL_law_505 rfl (lv_at hl 1 rfl) ?_
    refine g_LS (As := [.ref x0, .int (xs (i + 1)), .int (xs (i + 2)), .ref o]) (rest := []) ⟨hx, hb, hml, hown, hts⟩ (mt_L_about_1 l htr dC dI cA cL H.size x0 (xs (i + 1)) (xs (i + 2)) r0 r1 r2 r3 (nI rn) o fo hbad) (vx_cwSW 4 hts gL_law_L_about rfl rfl rfl hdL_about ⟨Nat.le_of_ble_eq_true rfl, Nat.le_of_ble_eq_true rfl⟩) hP hKl hD hS hA hZ [0, 15] (by decide) rfl rfl hl.1 rfl (Nat.le_of_ble_eq_true rfl) dL_law_506 hc1 hs1 (fun u9 => [(x0, .inr (1, [.ref r0, .ref r1, .ref r2, .ref r3, .int (nI rn)])), (r0, .inr (0, [.ref a0, .int (nI L0.length)])), (a0, .inl (cA, (100, .inl f0))), (r1, .inr (0, [.ref a1, .int (nI L1.length)])), (a1, .inl (cA, (100, .inl f1))), (r2, .inr (0, [.ref a2, .int n2])), (a2, .inl (cA, (100, .inl f2))), (r3, .inr (0, [.ref a3, .int n3])), (a3, .inl (cA, (100, .inl f3))), (y0, .inr (2, [.int tv, .int (nI rn), .ref q1, .ref q2, .int mn, .ref q3, .ref q4, .int ct, .int il, .ref q5])), (q1, .inl (cA, (2, .inl sf))), (q2, .inl (cA, (60, .inl lf))), (q3, .inl (cA, (320, .inl rf))), (q4, .inl (cA, (320, .inl nf))), (q5, .inl (cA, (6, .inl gf))), (o, .inl (cL, (1, .inr (.inl fo))))]) (fun _ => rfl) (fun _ => rfl) (fun u H locs hw_1 hP hD hS => ?_)
    have hP : va_P (dC, dI) vwCl [(x0, .inr (1, [.ref r0, .ref r1, .ref r2, .ref r3, .int (nI rn)])), (r0, .inr (0, [.ref a0, .int (nI L0.length)])), (a0, .inl (cA, (100, .inl f0))), (r1, .inr (0, [.ref a1, .int (nI L1.length)])), (a1, .inl (cA, (100, .inl f1))), (r2, .inr (0, [.ref a2, .int n2])), (a2, .inl (cA, (100, .inl f2))), (r3, .inr (0, [.ref a3, .int n3])), (a3, .inl (cA, (100, .inl f3))), (y0, .inr (2, [.int tv, .int (nI rn), .ref q1, .ref q2, .int mn, .ref q3, .ref q4, .int ct, .int il, .ref q5])), (q1, .inl (cA, (2, .inl sf))), (q2, .inl (cA, (60, .inl lf))), (q3, .inl (cA, (320, .inl rf))), (q4, .inl (cA, (320, .inl nf))), (q5, .inl (cA, (6, .inl gf))), (o, .inl (cL, (1, .inr (.inl fo))))] H := hP
    have hD : va_D A [(x0, .inr (1, [.ref r0, .ref r1, .ref r2, .ref r3, .int (nI rn)])), (r0, .inr (0, [.ref a0, .int (nI L0.length)])), (a0, .inl (cA, (100, .inl f0))), (r1, .inr (0, [.ref a1, .int (nI L1.length)])), (a1, .inl (cA, (100, .inl f1))), (r2, .inr (0, [.ref a2, .int n2])), (a2, .inl (cA, (100, .inl f2))), (r3, .inr (0, [.ref a3, .int n3])), (a3, .inl (cA, (100, .inl f3))), (y0, .inr (2, [.int tv, .int (nI rn), .ref q1, .ref q2, .int mn, .ref q3, .ref q4, .int ct, .int il, .ref q5])), (q1, .inl (cA, (2, .inl sf))), (q2, .inl (cA, (60, .inl lf))), (q3, .inl (cA, (320, .inl rf))), (q4, .inl (cA, (320, .inl nf))), (q5, .inl (cA, (6, .inl gf))), (o, .inl (cL, (1, .inr (.inl fo))))] := hD
    refine lv_istore (lv' := [(5, .int 1), (4, .int (nI i)), (3, .ref o), (2, .ref y0), (1, .ref x0), (0, .ref b)]) hx hb dL_law_509 hl (by decide) rfl (fun ls hl => ?_)
    refine lv_aload_n hx hb dL_law_511 rfl (lv_at hl 3 rfl) ?_
    refine lv_aload_n hx hb dL_law_512 rfl (lv_at hl 5 rfl) ?_
    refine lv_iload hx hb dL_law_513 (lv_at hl 1 rfl) ?_
    refine lv_iconst (v := 1) hx hb dL_law_515 (by decide) ?_
    refine lv_iadd hx hb dL_law_516 ?_
    rw [show (nI i) + 1 = nI (i + 1) from nI_add i 1]
    refine va_sld hx hb hX hbl hbA hS (vp_in_nI (by omega) (by omega)) dL_law_517 ?_
    rw [show (nI (i + 1)).toNatClampNeg = i + 1 from nI_clamp (by omega)]
    refine lv_aload_n hx hb dL_law_518 rfl (lv_at hl 5 rfl) ?_
    refine lv_iload hx hb dL_law_519 (lv_at hl 1 rfl) ?_
    refine lv_iconst (v := 2) hx hb dL_law_521 (by decide) ?_
    refine lv_iadd hx hb dL_law_522 ?_
    rw [show (nI i) + 2 = nI (i + 2) from nI_add i 2]
    refine va_sld hx hb hX hbl hbA hS (vp_in_nI (by omega) (by omega)) dL_law_523 ?_
    rw [show (nI (i + 2)).toNatClampNeg = i + 2 from nI_clamp (by omega)]
    refine g_MVi (As := [.int (xs (i + 1)), .int (xs (i + 2))]) (rest := []) ⟨hx, hb, hml, hown, hts⟩ (mt_X2_about_1 l dC dI cA H.size y0 q1 q2 q3 q4 q5 rn tv sf lf mn rf nf ct il gf (xs (i + 1)) (xs (i + 2)) hbad) (cwV 2 hts gL_law_X2_about rfl rfl rfl hdX2_about ⟨Nat.le_of_ble_eq_true rfl, Nat.le_of_ble_eq_true rfl⟩) hP hK hD hS hA [9, 10, 11, 12, 13, 14] (by decide) rfl (va_recv hK hP (ci := 2) (q0 := 9) rfl rfl) rfl hl.1 rfl (Nat.le_of_ble_eq_true rfl) dL_law_524 hc1 hs1 (fun u9 => [(x0, .inr (1, [.ref r0, .ref r1, .ref r2, .ref r3, .int (nI rn)])), (r0, .inr (0, [.ref a0, .int (nI L0.length)])), (a0, .inl (cA, (100, .inl f0))), (r1, .inr (0, [.ref a1, .int (nI L1.length)])), (a1, .inl (cA, (100, .inl f1))), (r2, .inr (0, [.ref a2, .int n2])), (a2, .inl (cA, (100, .inl f2))), (r3, .inr (0, [.ref a3, .int n3])), (a3, .inl (cA, (100, .inl f3))), (y0, .inr (2, [.int 1, .int (nI rn), .ref q1, .ref q2, .int mn, .ref q3, .ref q4, .int ct, .int il, .ref q5])), (q1, .inl (cA, (2, .inl sf))), (q2, .inl (cA, (60, .inl lf))), (q3, .inl (cA, (320, .inl rf))), (q4, .inl (cA, (320, .inl nf))), (q5, .inl (cA, (6, .inl gf))), (o, .inl (cL, (1, .inr (.inl fo))))]) (fun _ => rfl) (fun _ => rfl) (fun u H locs hw_2 hP hD hS => ?_)
    have hw_2 : True := hw_2
    have hP : va_P (dC, dI) vwCl [(x0, .inr (1, [.ref r0, .ref r1, .ref r2, .ref r3, .int (nI rn)])), (r0, .inr (0, [.ref a0, .int (nI L0.length)])), (a0, .inl (cA, (100, .inl f0))), (r1, .inr (0, [.ref a1, .int (nI L1.length)])), (a1, .inl (cA, (100, .inl f1))), (r2, .inr (0, [.ref a2, .int n2])), (a2, .inl (cA, (100, .inl f2))), (r3, .inr (0, [.ref a3, .int n3])), (a3, .inl (cA, (100, .inl f3))), (y0, .inr (2, [.int 1, .int (nI rn), .ref q1, .ref q2, .int mn, .ref q3, .ref q4, .int ct, .int il, .ref q5])), (q1, .inl (cA, (2, .inl sf))), (q2, .inl (cA, (60, .inl lf))), (q3, .inl (cA, (320, .inl rf))), (q4, .inl (cA, (320, .inl nf))), (q5, .inl (cA, (6, .inl gf))), (o, .inl (cL, (1, .inr (.inl fo))))] H := hP
    have hD : va_D A [(x0, .inr (1, [.ref r0, .ref r1, .ref r2, .ref r3, .int (nI rn)])), (r0, .inr (0, [.ref a0, .int (nI L0.length)])), (a0, .inl (cA, (100, .inl f0))), (r1, .inr (0, [.ref a1, .int (nI L1.length)])), (a1, .inl (cA, (100, .inl f1))), (r2, .inr (0, [.ref a2, .int n2])), (a2, .inl (cA, (100, .inl f2))), (r3, .inr (0, [.ref a3, .int n3])), (a3, .inl (cA, (100, .inl f3))), (y0, .inr (2, [.int 1, .int (nI rn), .ref q1, .ref q2, .int mn, .ref q3, .ref q4, .int ct, .int il, .ref q5])), (q1, .inl (cA, (2, .inl sf))), (q2, .inl (cA, (60, .inl lf))), (q3, .inl (cA, (320, .inl rf))), (q4, .inl (cA, (320, .inl nf))), (q5, .inl (cA, (6, .inl gf))), (o, .inl (cL, (1, .inr (.inl fo))))] := hD
    refine lv_istore (lv' := [(6, .int 0), (5, .int 1), (4, .int (nI i)), (3, .ref o), (2, .ref y0), (1, .ref x0), (0, .ref b)]) hx hb dL_law_527 hl (by decide) rfl (fun ls hl => ?_)
    refine lv_aload_n hx hb dL_law_529 rfl (lv_at hl 4 rfl) ?_
    refine g_RVi (As := []) (rest := []) ⟨hx, hb, hml, hown, hts⟩ (mt_X2_thrown l dC dI cA H.size y0 q1 q2 q3 q4 q5 rn 1 sf lf mn rf nf ct il gf) (cwV 0 hts gL_law_X2_thrown rfl rfl rfl hdX2_thrown ⟨Nat.le_of_ble_eq_true rfl, Nat.le_of_ble_eq_true rfl⟩) hP hK hD [9, 10, 11, 12, 13, 14] (by decide) rfl (va_recv hK hP (ci := 2) (q0 := 9) rfl rfl) rfl hl.1 rfl (Nat.le_of_ble_eq_true rfl) dL_law_530 hc1 hs1 ?_
    refine lv_iload hx hb dL_law_533 (lv_at hl 1 rfl) ?_
    refine lv_icmp_eq (tgt := 540) hx hb dL_law_535 (by decide) (fun c535 => ?_) (fun c535 => ?_)
    · refine lv_iload hx hb dL_law_540 (lv_at hl 1 rfl) ?_
      refine lv_if_ne (tgt := 557) hx hb dL_law_542 (by decide) (fun c542 => ?_) (fun c542 => ?_)
      · have c542 : ¬ 1 = 0 := g_neT 1 0 (by omega) (by omega) c542
        refine lv_goto (tgt := 1241) hx hb dL_law_557 (by decide) ?_
        exact kk rn L0 L1 _ _ _ _ _ ⟨f0, f1, n2, f2, n3, f3, 1, sf, lf, mn, rf, nf, ct, il, gf, fo, hP, hD, hS, hR0, hR1, hl0, hl1, hrn, hr6, hk0, hk1, hW⟩ (by omega) (by omega) (lv_sub hl [2, 3, 4, 5, 6] rfl)
      · exact absurd c542 (by decide)
    · exact absurd (by decide) c535
  · rcases pk_ix (xs (i + 2)) (n := L0.length - 2) (by omega) with hbad | hbad | ⟨k, hk9, h2⟩
    · refine lv_aload_n hx hb dL_law_492 rfl (lv_at hl 3 rfl) ?_
      refine lv_aload_n hx hb dL_law_493 rfl (lv_at hl 4 rfl) ?_
      refine lv_iload hx hb dL_law_494 (lv_at hl 0 rfl) ?_
      refine lv_iconst (v := 1) hx hb dL_law_496 (by decide) ?_
      refine lv_iadd hx hb dL_law_497 ?_
      rw [show (nI i) + 1 = nI (i + 1) from nI_add i 1]
      refine va_sld hx hb hX hbl hbA hS (vp_in_nI (by omega) (by omega)) dL_law_498 ?_
      rw [show (nI (i + 1)).toNatClampNeg = i + 1 from nI_clamp (by omega)]
      rw [h1]
      refine lv_aload_n hx hb dL_law_499 rfl (lv_at hl 4 rfl) ?_
      refine lv_iload hx hb dL_law_500 (lv_at hl 0 rfl) ?_
      refine lv_iconst (v := 2) hx hb dL_law_502 (by decide) ?_
      refine lv_iadd hx hb dL_law_503 ?_
      rw [show (nI i) + 2 = nI (i + 2) from nI_add i 2]
      refine va_sld hx hb hX hbl hbA hS (vp_in_nI (by omega) (by omega)) dL_law_504 ?_
      rw [show (nI (i + 2)).toNatClampNeg = i + 2 from nI_clamp (by omega)]
      refine lv_aload_n hx hb dL_law_505 rfl (lv_at hl 1 rfl) ?_
      refine g_LS (As := [.ref x0, .int (nI 0), .int (xs (i + 2)), .ref o]) (rest := []) ⟨hx, hb, hml, hown, hts⟩ (mt_L_about_1b_0 l htr dC dI cA cL H.size x0 r0 r1 r2 r3 rn a0 L0 f0 (xs (i + 2)) o fo hR0 (ab_bad hl0 (Or.inl hbad))) (vx_cwSW 4 hts gL_law_L_about rfl rfl rfl hdL_about ⟨Nat.le_of_ble_eq_true rfl, Nat.le_of_ble_eq_true rfl⟩) hP hKl hD hS hA hZ [0, 1, 2, 15] (by decide) rfl rfl hl.1 rfl (Nat.le_of_ble_eq_true rfl) dL_law_506 hc1 hs1 (fun u9 => [(x0, .inr (1, [.ref r0, .ref r1, .ref r2, .ref r3, .int (nI rn)])), (r0, .inr (0, [.ref a0, .int (nI L0.length)])), (a0, .inl (cA, (100, .inl f0))), (r1, .inr (0, [.ref a1, .int (nI L1.length)])), (a1, .inl (cA, (100, .inl f1))), (r2, .inr (0, [.ref a2, .int n2])), (a2, .inl (cA, (100, .inl f2))), (r3, .inr (0, [.ref a3, .int n3])), (a3, .inl (cA, (100, .inl f3))), (y0, .inr (2, [.int tv, .int (nI rn), .ref q1, .ref q2, .int mn, .ref q3, .ref q4, .int ct, .int il, .ref q5])), (q1, .inl (cA, (2, .inl sf))), (q2, .inl (cA, (60, .inl lf))), (q3, .inl (cA, (320, .inl rf))), (q4, .inl (cA, (320, .inl nf))), (q5, .inl (cA, (6, .inl gf))), (o, .inl (cL, (1, .inr (.inl fo))))]) (fun _ => rfl) (fun _ => rfl) (fun u H locs hw_1 hP hD hS => ?_)
      have hP : va_P (dC, dI) vwCl [(x0, .inr (1, [.ref r0, .ref r1, .ref r2, .ref r3, .int (nI rn)])), (r0, .inr (0, [.ref a0, .int (nI L0.length)])), (a0, .inl (cA, (100, .inl f0))), (r1, .inr (0, [.ref a1, .int (nI L1.length)])), (a1, .inl (cA, (100, .inl f1))), (r2, .inr (0, [.ref a2, .int n2])), (a2, .inl (cA, (100, .inl f2))), (r3, .inr (0, [.ref a3, .int n3])), (a3, .inl (cA, (100, .inl f3))), (y0, .inr (2, [.int tv, .int (nI rn), .ref q1, .ref q2, .int mn, .ref q3, .ref q4, .int ct, .int il, .ref q5])), (q1, .inl (cA, (2, .inl sf))), (q2, .inl (cA, (60, .inl lf))), (q3, .inl (cA, (320, .inl rf))), (q4, .inl (cA, (320, .inl nf))), (q5, .inl (cA, (6, .inl gf))), (o, .inl (cL, (1, .inr (.inl fo))))] H := hP
      have hD : va_D A [(x0, .inr (1, [.ref r0, .ref r1, .ref r2, .ref r3, .int (nI rn)])), (r0, .inr (0, [.ref a0, .int (nI L0.length)])), (a0, .inl (cA, (100, .inl f0))), (r1, .inr (0, [.ref a1, .int (nI L1.length)])), (a1, .inl (cA, (100, .inl f1))), (r2, .inr (0, [.ref a2, .int n2])), (a2, .inl (cA, (100, .inl f2))), (r3, .inr (0, [.ref a3, .int n3])), (a3, .inl (cA, (100, .inl f3))), (y0, .inr (2, [.int tv, .int (nI rn), .ref q1, .ref q2, .int mn, .ref q3, .ref q4, .int ct, .int il, .ref q5])), (q1, .inl (cA, (2, .inl sf))), (q2, .inl (cA, (60, .inl lf))), (q3, .inl (cA, (320, .inl rf))), (q4, .inl (cA, (320, .inl nf))), (q5, .inl (cA, (6, .inl gf))), (o, .inl (cL, (1, .inr (.inl fo))))] := hD
      refine lv_istore (lv' := [(5, .int 1), (4, .int (nI i)), (3, .ref o), (2, .ref y0), (1, .ref x0), (0, .ref b)]) hx hb dL_law_509 hl (by decide) rfl (fun ls hl => ?_)
      refine lv_aload_n hx hb dL_law_511 rfl (lv_at hl 3 rfl) ?_
      refine lv_aload_n hx hb dL_law_512 rfl (lv_at hl 5 rfl) ?_
      refine lv_iload hx hb dL_law_513 (lv_at hl 1 rfl) ?_
      refine lv_iconst (v := 1) hx hb dL_law_515 (by decide) ?_
      refine lv_iadd hx hb dL_law_516 ?_
      rw [show (nI i) + 1 = nI (i + 1) from nI_add i 1]
      refine va_sld hx hb hX hbl hbA hS (vp_in_nI (by omega) (by omega)) dL_law_517 ?_
      rw [show (nI (i + 1)).toNatClampNeg = i + 1 from nI_clamp (by omega)]
      rw [h1]
      refine lv_aload_n hx hb dL_law_518 rfl (lv_at hl 5 rfl) ?_
      refine lv_iload hx hb dL_law_519 (lv_at hl 1 rfl) ?_
      refine lv_iconst (v := 2) hx hb dL_law_521 (by decide) ?_
      refine lv_iadd hx hb dL_law_522 ?_
      rw [show (nI i) + 2 = nI (i + 2) from nI_add i 2]
      refine va_sld hx hb hX hbl hbA hS (vp_in_nI (by omega) (by omega)) dL_law_523 ?_
      rw [show (nI (i + 2)).toNatClampNeg = i + 2 from nI_clamp (by omega)]
      refine g_MVi (As := [.int (nI 0), .int (xs (i + 2))]) (rest := []) ⟨hx, hb, hml, hown, hts⟩ (mt_X2_about_1b l dC dI cA H.size y0 q1 q2 q3 q4 q5 rn tv sf lf mn rf nf ct il gf (V2 L0 L1) 0 (xs (i + 2)) hW (by omega) (Or.inl hbad)) (cwV 2 hts gL_law_X2_about rfl rfl rfl hdX2_about ⟨Nat.le_of_ble_eq_true rfl, Nat.le_of_ble_eq_true rfl⟩) hP hK hD hS hA [9, 10, 11, 12, 13, 14] (by decide) rfl (va_recv hK hP (ci := 2) (q0 := 9) rfl rfl) rfl hl.1 rfl (Nat.le_of_ble_eq_true rfl) dL_law_524 hc1 hs1 (fun u9 => [(x0, .inr (1, [.ref r0, .ref r1, .ref r2, .ref r3, .int (nI rn)])), (r0, .inr (0, [.ref a0, .int (nI L0.length)])), (a0, .inl (cA, (100, .inl f0))), (r1, .inr (0, [.ref a1, .int (nI L1.length)])), (a1, .inl (cA, (100, .inl f1))), (r2, .inr (0, [.ref a2, .int n2])), (a2, .inl (cA, (100, .inl f2))), (r3, .inr (0, [.ref a3, .int n3])), (a3, .inl (cA, (100, .inl f3))), (y0, .inr (2, [.int 1, .int (nI rn), .ref q1, .ref q2, .int mn, .ref q3, .ref q4, .int ct, .int il, .ref q5])), (q1, .inl (cA, (2, .inl sf))), (q2, .inl (cA, (60, .inl lf))), (q3, .inl (cA, (320, .inl rf))), (q4, .inl (cA, (320, .inl nf))), (q5, .inl (cA, (6, .inl gf))), (o, .inl (cL, (1, .inr (.inl fo))))]) (fun _ => rfl) (fun _ => rfl) (fun u H locs hw_2 hP hD hS => ?_)
      have hw_2 : True := hw_2
      have hP : va_P (dC, dI) vwCl [(x0, .inr (1, [.ref r0, .ref r1, .ref r2, .ref r3, .int (nI rn)])), (r0, .inr (0, [.ref a0, .int (nI L0.length)])), (a0, .inl (cA, (100, .inl f0))), (r1, .inr (0, [.ref a1, .int (nI L1.length)])), (a1, .inl (cA, (100, .inl f1))), (r2, .inr (0, [.ref a2, .int n2])), (a2, .inl (cA, (100, .inl f2))), (r3, .inr (0, [.ref a3, .int n3])), (a3, .inl (cA, (100, .inl f3))), (y0, .inr (2, [.int 1, .int (nI rn), .ref q1, .ref q2, .int mn, .ref q3, .ref q4, .int ct, .int il, .ref q5])), (q1, .inl (cA, (2, .inl sf))), (q2, .inl (cA, (60, .inl lf))), (q3, .inl (cA, (320, .inl rf))), (q4, .inl (cA, (320, .inl nf))), (q5, .inl (cA, (6, .inl gf))), (o, .inl (cL, (1, .inr (.inl fo))))] H := hP
      have hD : va_D A [(x0, .inr (1, [.ref r0, .ref r1, .ref r2, .ref r3, .int (nI rn)])), (r0, .inr (0, [.ref a0, .int (nI L0.length)])), (a0, .inl (cA, (100, .inl f0))), (r1, .inr (0, [.ref a1, .int (nI L1.length)])), (a1, .inl (cA, (100, .inl f1))), (r2, .inr (0, [.ref a2, .int n2])), (a2, .inl (cA, (100, .inl f2))), (r3, .inr (0, [.ref a3, .int n3])), (a3, .inl (cA, (100, .inl f3))), (y0, .inr (2, [.int 1, .int (nI rn), .ref q1, .ref q2, .int mn, .ref q3, .ref q4, .int ct, .int il, .ref q5])), (q1, .inl (cA, (2, .inl sf))), (q2, .inl (cA, (60, .inl lf))), (q3, .inl (cA, (320, .inl rf))), (q4, .inl (cA, (320, .inl nf))), (q5, .inl (cA, (6, .inl gf))), (o, .inl (cL, (1, .inr (.inl fo))))] := hD
      refine lv_istore (lv' := [(6, .int 0), (5, .int 1), (4, .int (nI i)), (3, .ref o), (2, .ref y0), (1, .ref x0), (0, .ref b)]) hx hb dL_law_527 hl (by decide) rfl (fun ls hl => ?_)
      refine lv_aload_n hx hb dL_law_529 rfl (lv_at hl 4 rfl) ?_
      refine g_RVi (As := []) (rest := []) ⟨hx, hb, hml, hown, hts⟩ (mt_X2_thrown l dC dI cA H.size y0 q1 q2 q3 q4 q5 rn 1 sf lf mn rf nf ct il gf) (cwV 0 hts gL_law_X2_thrown rfl rfl rfl hdX2_thrown ⟨Nat.le_of_ble_eq_true rfl, Nat.le_of_ble_eq_true rfl⟩) hP hK hD [9, 10, 11, 12, 13, 14] (by decide) rfl (va_recv hK hP (ci := 2) (q0 := 9) rfl rfl) rfl hl.1 rfl (Nat.le_of_ble_eq_true rfl) dL_law_530 hc1 hs1 ?_
      refine lv_iload hx hb dL_law_533 (lv_at hl 1 rfl) ?_
      refine lv_icmp_eq (tgt := 540) hx hb dL_law_535 (by decide) (fun c535 => ?_) (fun c535 => ?_)
      · refine lv_iload hx hb dL_law_540 (lv_at hl 1 rfl) ?_
        refine lv_if_ne (tgt := 557) hx hb dL_law_542 (by decide) (fun c542 => ?_) (fun c542 => ?_)
        · have c542 : ¬ 1 = 0 := g_neT 1 0 (by omega) (by omega) c542
          refine lv_goto (tgt := 1241) hx hb dL_law_557 (by decide) ?_
          exact kk rn L0 L1 _ _ _ _ _ ⟨f0, f1, n2, f2, n3, f3, 1, sf, lf, mn, rf, nf, ct, il, gf, fo, hP, hD, hS, hR0, hR1, hl0, hl1, hrn, hr6, hk0, hk1, hW⟩ (by omega) (by omega) (lv_sub hl [2, 3, 4, 5, 6] rfl)
        · exact absurd c542 (by decide)
      · exact absurd (by decide) c535
    · refine lv_aload_n hx hb dL_law_492 rfl (lv_at hl 3 rfl) ?_
      refine lv_aload_n hx hb dL_law_493 rfl (lv_at hl 4 rfl) ?_
      refine lv_iload hx hb dL_law_494 (lv_at hl 0 rfl) ?_
      refine lv_iconst (v := 1) hx hb dL_law_496 (by decide) ?_
      refine lv_iadd hx hb dL_law_497 ?_
      rw [show (nI i) + 1 = nI (i + 1) from nI_add i 1]
      refine va_sld hx hb hX hbl hbA hS (vp_in_nI (by omega) (by omega)) dL_law_498 ?_
      rw [show (nI (i + 1)).toNatClampNeg = i + 1 from nI_clamp (by omega)]
      rw [h1]
      refine lv_aload_n hx hb dL_law_499 rfl (lv_at hl 4 rfl) ?_
      refine lv_iload hx hb dL_law_500 (lv_at hl 0 rfl) ?_
      refine lv_iconst (v := 2) hx hb dL_law_502 (by decide) ?_
      refine lv_iadd hx hb dL_law_503 ?_
      rw [show (nI i) + 2 = nI (i + 2) from nI_add i 2]
      refine va_sld hx hb hX hbl hbA hS (vp_in_nI (by omega) (by omega)) dL_law_504 ?_
      rw [show (nI (i + 2)).toNatClampNeg = i + 2 from nI_clamp (by omega)]
      refine lv_aload_n hx hb dL_law_505 rfl (lv_at hl 1 rfl) ?_
      refine g_LS (As := [.ref x0, .int (nI 0), .int (xs (i + 2)), .ref o]) (rest := []) ⟨hx, hb, hml, hown, hts⟩ (mt_L_about_1b_0 l htr dC dI cA cL H.size x0 r0 r1 r2 r3 rn a0 L0 f0 (xs (i + 2)) o fo hR0 (ab_bad hl0 (Or.inr hbad))) (vx_cwSW 4 hts gL_law_L_about rfl rfl rfl hdL_about ⟨Nat.le_of_ble_eq_true rfl, Nat.le_of_ble_eq_true rfl⟩) hP hKl hD hS hA hZ [0, 1, 2, 15] (by decide) rfl rfl hl.1 rfl (Nat.le_of_ble_eq_true rfl) dL_law_506 hc1 hs1 (fun u9 => [(x0, .inr (1, [.ref r0, .ref r1, .ref r2, .ref r3, .int (nI rn)])), (r0, .inr (0, [.ref a0, .int (nI L0.length)])), (a0, .inl (cA, (100, .inl f0))), (r1, .inr (0, [.ref a1, .int (nI L1.length)])), (a1, .inl (cA, (100, .inl f1))), (r2, .inr (0, [.ref a2, .int n2])), (a2, .inl (cA, (100, .inl f2))), (r3, .inr (0, [.ref a3, .int n3])), (a3, .inl (cA, (100, .inl f3))), (y0, .inr (2, [.int tv, .int (nI rn), .ref q1, .ref q2, .int mn, .ref q3, .ref q4, .int ct, .int il, .ref q5])), (q1, .inl (cA, (2, .inl sf))), (q2, .inl (cA, (60, .inl lf))), (q3, .inl (cA, (320, .inl rf))), (q4, .inl (cA, (320, .inl nf))), (q5, .inl (cA, (6, .inl gf))), (o, .inl (cL, (1, .inr (.inl fo))))]) (fun _ => rfl) (fun _ => rfl) (fun u H locs hw_1 hP hD hS => ?_)
      have hP : va_P (dC, dI) vwCl [(x0, .inr (1, [.ref r0, .ref r1, .ref r2, .ref r3, .int (nI rn)])), (r0, .inr (0, [.ref a0, .int (nI L0.length)])), (a0, .inl (cA, (100, .inl f0))), (r1, .inr (0, [.ref a1, .int (nI L1.length)])), (a1, .inl (cA, (100, .inl f1))), (r2, .inr (0, [.ref a2, .int n2])), (a2, .inl (cA, (100, .inl f2))), (r3, .inr (0, [.ref a3, .int n3])), (a3, .inl (cA, (100, .inl f3))), (y0, .inr (2, [.int tv, .int (nI rn), .ref q1, .ref q2, .int mn, .ref q3, .ref q4, .int ct, .int il, .ref q5])), (q1, .inl (cA, (2, .inl sf))), (q2, .inl (cA, (60, .inl lf))), (q3, .inl (cA, (320, .inl rf))), (q4, .inl (cA, (320, .inl nf))), (q5, .inl (cA, (6, .inl gf))), (o, .inl (cL, (1, .inr (.inl fo))))] H := hP
      have hD : va_D A [(x0, .inr (1, [.ref r0, .ref r1, .ref r2, .ref r3, .int (nI rn)])), (r0, .inr (0, [.ref a0, .int (nI L0.length)])), (a0, .inl (cA, (100, .inl f0))), (r1, .inr (0, [.ref a1, .int (nI L1.length)])), (a1, .inl (cA, (100, .inl f1))), (r2, .inr (0, [.ref a2, .int n2])), (a2, .inl (cA, (100, .inl f2))), (r3, .inr (0, [.ref a3, .int n3])), (a3, .inl (cA, (100, .inl f3))), (y0, .inr (2, [.int tv, .int (nI rn), .ref q1, .ref q2, .int mn, .ref q3, .ref q4, .int ct, .int il, .ref q5])), (q1, .inl (cA, (2, .inl sf))), (q2, .inl (cA, (60, .inl lf))), (q3, .inl (cA, (320, .inl rf))), (q4, .inl (cA, (320, .inl nf))), (q5, .inl (cA, (6, .inl gf))), (o, .inl (cL, (1, .inr (.inl fo))))] := hD
      refine lv_istore (lv' := [(5, .int 1), (4, .int (nI i)), (3, .ref o), (2, .ref y0), (1, .ref x0), (0, .ref b)]) hx hb dL_law_509 hl (by decide) rfl (fun ls hl => ?_)
      refine lv_aload_n hx hb dL_law_511 rfl (lv_at hl 3 rfl) ?_
      refine lv_aload_n hx hb dL_law_512 rfl (lv_at hl 5 rfl) ?_
      refine lv_iload hx hb dL_law_513 (lv_at hl 1 rfl) ?_
      refine lv_iconst (v := 1) hx hb dL_law_515 (by decide) ?_
      refine lv_iadd hx hb dL_law_516 ?_
      rw [show (nI i) + 1 = nI (i + 1) from nI_add i 1]
      refine va_sld hx hb hX hbl hbA hS (vp_in_nI (by omega) (by omega)) dL_law_517 ?_
      rw [show (nI (i + 1)).toNatClampNeg = i + 1 from nI_clamp (by omega)]
      rw [h1]
      refine lv_aload_n hx hb dL_law_518 rfl (lv_at hl 5 rfl) ?_
      refine lv_iload hx hb dL_law_519 (lv_at hl 1 rfl) ?_
      refine lv_iconst (v := 2) hx hb dL_law_521 (by decide) ?_
      refine lv_iadd hx hb dL_law_522 ?_
      rw [show (nI i) + 2 = nI (i + 2) from nI_add i 2]
      refine va_sld hx hb hX hbl hbA hS (vp_in_nI (by omega) (by omega)) dL_law_523 ?_
      rw [show (nI (i + 2)).toNatClampNeg = i + 2 from nI_clamp (by omega)]
      refine g_MVi (As := [.int (nI 0), .int (xs (i + 2))]) (rest := []) ⟨hx, hb, hml, hown, hts⟩ (mt_X2_about_1b l dC dI cA H.size y0 q1 q2 q3 q4 q5 rn tv sf lf mn rf nf ct il gf (V2 L0 L1) 0 (xs (i + 2)) hW (by omega) (Or.inr hbad)) (cwV 2 hts gL_law_X2_about rfl rfl rfl hdX2_about ⟨Nat.le_of_ble_eq_true rfl, Nat.le_of_ble_eq_true rfl⟩) hP hK hD hS hA [9, 10, 11, 12, 13, 14] (by decide) rfl (va_recv hK hP (ci := 2) (q0 := 9) rfl rfl) rfl hl.1 rfl (Nat.le_of_ble_eq_true rfl) dL_law_524 hc1 hs1 (fun u9 => [(x0, .inr (1, [.ref r0, .ref r1, .ref r2, .ref r3, .int (nI rn)])), (r0, .inr (0, [.ref a0, .int (nI L0.length)])), (a0, .inl (cA, (100, .inl f0))), (r1, .inr (0, [.ref a1, .int (nI L1.length)])), (a1, .inl (cA, (100, .inl f1))), (r2, .inr (0, [.ref a2, .int n2])), (a2, .inl (cA, (100, .inl f2))), (r3, .inr (0, [.ref a3, .int n3])), (a3, .inl (cA, (100, .inl f3))), (y0, .inr (2, [.int 1, .int (nI rn), .ref q1, .ref q2, .int mn, .ref q3, .ref q4, .int ct, .int il, .ref q5])), (q1, .inl (cA, (2, .inl sf))), (q2, .inl (cA, (60, .inl lf))), (q3, .inl (cA, (320, .inl rf))), (q4, .inl (cA, (320, .inl nf))), (q5, .inl (cA, (6, .inl gf))), (o, .inl (cL, (1, .inr (.inl fo))))]) (fun _ => rfl) (fun _ => rfl) (fun u H locs hw_2 hP hD hS => ?_)
      have hw_2 : True := hw_2
      have hP : va_P (dC, dI) vwCl [(x0, .inr (1, [.ref r0, .ref r1, .ref r2, .ref r3, .int (nI rn)])), (r0, .inr (0, [.ref a0, .int (nI L0.length)])), (a0, .inl (cA, (100, .inl f0))), (r1, .inr (0, [.ref a1, .int (nI L1.length)])), (a1, .inl (cA, (100, .inl f1))), (r2, .inr (0, [.ref a2, .int n2])), (a2, .inl (cA, (100, .inl f2))), (r3, .inr (0, [.ref a3, .int n3])), (a3, .inl (cA, (100, .inl f3))), (y0, .inr (2, [.int 1, .int (nI rn), .ref q1, .ref q2, .int mn, .ref q3, .ref q4, .int ct, .int il, .ref q5])), (q1, .inl (cA, (2, .inl sf))), (q2, .inl (cA, (60, .inl lf))), (q3, .inl (cA, (320, .inl rf))), (q4, .inl (cA, (320, .inl nf))), (q5, .inl (cA, (6, .inl gf))), (o, .inl (cL, (1, .inr (.inl fo))))] H := hP
      have hD : va_D A [(x0, .inr (1, [.ref r0, .ref r1, .ref r2, .ref r3, .int (nI rn)])), (r0, .inr (0, [.ref a0, .int (nI L0.length)])), (a0, .inl (cA, (100, .inl f0))), (r1, .inr (0, [.ref a1, .int (nI L1.length)])), (a1, .inl (cA, (100, .inl f1))), (r2, .inr (0, [.ref a2, .int n2])), (a2, .inl (cA, (100, .inl f2))), (r3, .inr (0, [.ref a3, .int n3])), (a3, .inl (cA, (100, .inl f3))), (y0, .inr (2, [.int 1, .int (nI rn), .ref q1, .ref q2, .int mn, .ref q3, .ref q4, .int ct, .int il, .ref q5])), (q1, .inl (cA, (2, .inl sf))), (q2, .inl (cA, (60, .inl lf))), (q3, .inl (cA, (320, .inl rf))), (q4, .inl (cA, (320, .inl nf))), (q5, .inl (cA, (6, .inl gf))), (o, .inl (cL, (1, .inr (.inl fo))))] := hD
      refine lv_istore (lv' := [(6, .int 0), (5, .int 1), (4, .int (nI i)), (3, .ref o), (2, .ref y0), (1, .ref x0), (0, .ref b)]) hx hb dL_law_527 hl (by decide) rfl (fun ls hl => ?_)
      refine lv_aload_n hx hb dL_law_529 rfl (lv_at hl 4 rfl) ?_
      refine g_RVi (As := []) (rest := []) ⟨hx, hb, hml, hown, hts⟩ (mt_X2_thrown l dC dI cA H.size y0 q1 q2 q3 q4 q5 rn 1 sf lf mn rf nf ct il gf) (cwV 0 hts gL_law_X2_thrown rfl rfl rfl hdX2_thrown ⟨Nat.le_of_ble_eq_true rfl, Nat.le_of_ble_eq_true rfl⟩) hP hK hD [9, 10, 11, 12, 13, 14] (by decide) rfl (va_recv hK hP (ci := 2) (q0 := 9) rfl rfl) rfl hl.1 rfl (Nat.le_of_ble_eq_true rfl) dL_law_530 hc1 hs1 ?_
      refine lv_iload hx hb dL_law_533 (lv_at hl 1 rfl) ?_
      refine lv_icmp_eq (tgt := 540) hx hb dL_law_535 (by decide) (fun c535 => ?_) (fun c535 => ?_)
      · refine lv_iload hx hb dL_law_540 (lv_at hl 1 rfl) ?_
        refine lv_if_ne (tgt := 557) hx hb dL_law_542 (by decide) (fun c542 => ?_) (fun c542 => ?_)
        · have c542 : ¬ 1 = 0 := g_neT 1 0 (by omega) (by omega) c542
          refine lv_goto (tgt := 1241) hx hb dL_law_557 (by decide) ?_
          exact kk rn L0 L1 _ _ _ _ _ ⟨f0, f1, n2, f2, n3, f3, 1, sf, lf, mn, rf, nf, ct, il, gf, fo, hP, hD, hS, hR0, hR1, hl0, hl1, hrn, hr6, hk0, hk1, hW⟩ (by omega) (by omega) (lv_sub hl [2, 3, 4, 5, 6] rfl)
        · exact absurd c542 (by decide)
      · exact absurd (by decide) c535
    · by_cases hno9 : atL L0 (k + 2) = atL L0 k ∧ sgI (atL L0 (k + 1)) = sgI (atL L0 k) ∧ abI (abI (atL L0 (k + 1)) - abI (atL L0 k)) = 1
      · refine lv_aload_n hx hb dL_law_492 rfl (lv_at hl 3 rfl) ?_
        refine lv_aload_n hx hb dL_law_493 rfl (lv_at hl 4 rfl) ?_
        refine lv_iload hx hb dL_law_494 (lv_at hl 0 rfl) ?_
        refine lv_iconst (v := 1) hx hb dL_law_496 (by decide) ?_
        refine lv_iadd hx hb dL_law_497 ?_
        rw [show (nI i) + 1 = nI (i + 1) from nI_add i 1]
        refine va_sld hx hb hX hbl hbA hS (vp_in_nI (by omega) (by omega)) dL_law_498 ?_
        rw [show (nI (i + 1)).toNatClampNeg = i + 1 from nI_clamp (by omega)]
        rw [h1]
        refine lv_aload_n hx hb dL_law_499 rfl (lv_at hl 4 rfl) ?_
        refine lv_iload hx hb dL_law_500 (lv_at hl 0 rfl) ?_
        refine lv_iconst (v := 2) hx hb dL_law_502 (by decide) ?_
        refine lv_iadd hx hb dL_law_503 ?_
        rw [show (nI i) + 2 = nI (i + 2) from nI_add i 2]
        refine va_sld hx hb hX hbl hbA hS (vp_in_nI (by omega) (by omega)) dL_law_504 ?_
        rw [show (nI (i + 2)).toNatClampNeg = i + 2 from nI_clamp (by omega)]
        rw [h2]
        refine lv_aload_n hx hb dL_law_505 rfl (lv_at hl 1 rfl) ?_
        refine g_LS (As := [.ref x0, .int (nI 0), .int (nI k), .ref o]) (rest := []) ⟨hx, hb, hml, hown, hts⟩ (mt_L_about0 l htr dC dI cA cL H.size x0 r0 r1 r2 r3 rn a0 L0 f0 k o fo hR0 (by omega) hno9.1 hno9.2.1 hno9.2.2) (vx_cwSW 4 hts gL_law_L_about rfl rfl rfl hdL_about ⟨Nat.le_of_ble_eq_true rfl, Nat.le_of_ble_eq_true rfl⟩) hP hKl hD hS hA hZ [0, 1, 2, 15] (by decide) rfl rfl hl.1 rfl (Nat.le_of_ble_eq_true rfl) dL_law_506 hc0 hs0 (fun u9 => [(x0, .inr (1, [.ref r0, .ref r1, .ref r2, .ref r3, .int (nI rn)])), (r0, .inr (0, [.ref a0, .int (nI ((((L0.set k (atL L0 (k + 1))).set (k + 1) (atL L0 k)).set (k + 2) (atL L0 (k + 1))).length))])), (a0, .inl (cA, (100, .inl u9))), (r1, .inr (0, [.ref a1, .int (nI L1.length)])), (a1, .inl (cA, (100, .inl f1))), (r2, .inr (0, [.ref a2, .int n2])), (a2, .inl (cA, (100, .inl f2))), (r3, .inr (0, [.ref a3, .int n3])), (a3, .inl (cA, (100, .inl f3))), (y0, .inr (2, [.int tv, .int (nI rn), .ref q1, .ref q2, .int mn, .ref q3, .ref q4, .int ct, .int il, .ref q5])), (q1, .inl (cA, (2, .inl sf))), (q2, .inl (cA, (60, .inl lf))), (q3, .inl (cA, (320, .inl rf))), (q4, .inl (cA, (320, .inl nf))), (q5, .inl (cA, (6, .inl gf))), (o, .inl (cL, (1, .inr (.inl (vp_updL fo 0 (atL L0 (k + 1)).toInt64)))))]) (fun _ => rfl) (fun _ => rfl) (fun u H locs hw_2 hP hD hS => ?_)
        obtain ⟨f1_1, rfl⟩ : ∃ z, z = u := ⟨_, rfl⟩
        have hw_2 : RI (((L0.set k (atL L0 (k + 1))).set (k + 1) (atL L0 k)).set (k + 2) (atL L0 (k + 1))) f1_1 := hw_2
        have hP : va_P (dC, dI) vwCl [(x0, .inr (1, [.ref r0, .ref r1, .ref r2, .ref r3, .int (nI rn)])), (r0, .inr (0, [.ref a0, .int (nI ((((L0.set k (atL L0 (k + 1))).set (k + 1) (atL L0 k)).set (k + 2) (atL L0 (k + 1))).length))])), (a0, .inl (cA, (100, .inl f1_1))), (r1, .inr (0, [.ref a1, .int (nI L1.length)])), (a1, .inl (cA, (100, .inl f1))), (r2, .inr (0, [.ref a2, .int n2])), (a2, .inl (cA, (100, .inl f2))), (r3, .inr (0, [.ref a3, .int n3])), (a3, .inl (cA, (100, .inl f3))), (y0, .inr (2, [.int tv, .int (nI rn), .ref q1, .ref q2, .int mn, .ref q3, .ref q4, .int ct, .int il, .ref q5])), (q1, .inl (cA, (2, .inl sf))), (q2, .inl (cA, (60, .inl lf))), (q3, .inl (cA, (320, .inl rf))), (q4, .inl (cA, (320, .inl nf))), (q5, .inl (cA, (6, .inl gf))), (o, .inl (cL, (1, .inr (.inl (vp_updL fo 0 (atL L0 (k + 1)).toInt64)))))] H := hP
        have hD : va_D A [(x0, .inr (1, [.ref r0, .ref r1, .ref r2, .ref r3, .int (nI rn)])), (r0, .inr (0, [.ref a0, .int (nI ((((L0.set k (atL L0 (k + 1))).set (k + 1) (atL L0 k)).set (k + 2) (atL L0 (k + 1))).length))])), (a0, .inl (cA, (100, .inl f1_1))), (r1, .inr (0, [.ref a1, .int (nI L1.length)])), (a1, .inl (cA, (100, .inl f1))), (r2, .inr (0, [.ref a2, .int n2])), (a2, .inl (cA, (100, .inl f2))), (r3, .inr (0, [.ref a3, .int n3])), (a3, .inl (cA, (100, .inl f3))), (y0, .inr (2, [.int tv, .int (nI rn), .ref q1, .ref q2, .int mn, .ref q3, .ref q4, .int ct, .int il, .ref q5])), (q1, .inl (cA, (2, .inl sf))), (q2, .inl (cA, (60, .inl lf))), (q3, .inl (cA, (320, .inl rf))), (q4, .inl (cA, (320, .inl nf))), (q5, .inl (cA, (6, .inl gf))), (o, .inl (cL, (1, .inr (.inl (vp_updL fo 0 (atL L0 (k + 1)).toInt64)))))] := hD
        refine lv_istore (lv' := [(5, .int 0), (4, .int (nI i)), (3, .ref o), (2, .ref y0), (1, .ref x0), (0, .ref b)]) hx hb dL_law_509 hl (by decide) rfl (fun ls hl => ?_)
        refine lv_aload_n hx hb dL_law_511 rfl (lv_at hl 3 rfl) ?_
        refine lv_aload_n hx hb dL_law_512 rfl (lv_at hl 5 rfl) ?_
        refine lv_iload hx hb dL_law_513 (lv_at hl 1 rfl) ?_
        refine lv_iconst (v := 1) hx hb dL_law_515 (by decide) ?_
        refine lv_iadd hx hb dL_law_516 ?_
        rw [show (nI i) + 1 = nI (i + 1) from nI_add i 1]
        refine va_sld hx hb hX hbl hbA hS (vp_in_nI (by omega) (by omega)) dL_law_517 ?_
        rw [show (nI (i + 1)).toNatClampNeg = i + 1 from nI_clamp (by omega)]
        rw [h1]
        refine lv_aload_n hx hb dL_law_518 rfl (lv_at hl 5 rfl) ?_
        refine lv_iload hx hb dL_law_519 (lv_at hl 1 rfl) ?_
        refine lv_iconst (v := 2) hx hb dL_law_521 (by decide) ?_
        refine lv_iadd hx hb dL_law_522 ?_
        rw [show (nI i) + 2 = nI (i + 2) from nI_add i 2]
        refine va_sld hx hb hX hbl hbA hS (vp_in_nI (by omega) (by omega)) dL_law_523 ?_
        rw [show (nI (i + 2)).toNatClampNeg = i + 2 from nI_clamp (by omega)]
        rw [h2]
        refine g_MVi (As := [.int (nI 0), .int (nI k)]) (rest := []) ⟨hx, hb, hml, hown, hts⟩ (mt_X2_about l dC dI cA H.size y0 q1 q2 q3 q4 q5 rn tv sf lf mn rf nf ct il gf (V2 L0 L1) 0 k hW (by omega) hrn hk0 (show k + 2 < L0.length from by omega) hno9.1 hno9.2.1 hno9.2.2) (cwV 2 hts gL_law_X2_about rfl rfl rfl hdX2_about ⟨Nat.le_of_ble_eq_true rfl, Nat.le_of_ble_eq_true rfl⟩) hP hK hD hS hA [9, 10, 11, 12, 13, 14] (by decide) rfl (va_recv hK hP (ci := 2) (q0 := 9) rfl rfl) rfl hl.1 rfl (Nat.le_of_ble_eq_true rfl) dL_law_524 hc0 hs0 (fun u9 => [(x0, .inr (1, [.ref r0, .ref r1, .ref r2, .ref r3, .int (nI rn)])), (r0, .inr (0, [.ref a0, .int (nI ((((L0.set k (atL L0 (k + 1))).set (k + 1) (atL L0 k)).set (k + 2) (atL L0 (k + 1))).length))])), (a0, .inl (cA, (100, .inl f1_1))), (r1, .inr (0, [.ref a1, .int (nI L1.length)])), (a1, .inl (cA, (100, .inl f1))), (r2, .inr (0, [.ref a2, .int n2])), (a2, .inl (cA, (100, .inl f2))), (r3, .inr (0, [.ref a3, .int n3])), (a3, .inl (cA, (100, .inl f3))), (y0, .inr (2, [.int 0, .int (nI rn), .ref q1, .ref q2, .int mn, .ref q3, .ref q4, .int ct, .int il, .ref q5])), (q1, .inl (cA, (2, .inl sf))), (q2, .inl (cA, (60, .inl u9))), (q3, .inl (cA, (320, .inl rf))), (q4, .inl (cA, (320, .inl nf))), (q5, .inl (cA, (6, .inl gf))), (o, .inl (cL, (1, .inr (.inl (vp_updL fo 0 (atL L0 (k + 1)).toInt64)))))]) (fun _ => rfl) (fun _ => rfl) (fun u H locs hw_4 hP hD hS => ?_)
        obtain ⟨l1_3, rfl⟩ : ∃ z, z = u := ⟨_, rfl⟩
        have hw_4 : MW (upW (V2 L0 L1) 0 (((((V2 L0 L1) 0).set k (atL ((V2 L0 L1) 0) (k + 1))).set (k + 1) (atL ((V2 L0 L1) 0) k)).set (k + 2) (atL ((V2 L0 L1) 0) (k + 1)))) sf l1_3 := hw_4
        have hP : va_P (dC, dI) vwCl [(x0, .inr (1, [.ref r0, .ref r1, .ref r2, .ref r3, .int (nI rn)])), (r0, .inr (0, [.ref a0, .int (nI ((((L0.set k (atL L0 (k + 1))).set (k + 1) (atL L0 k)).set (k + 2) (atL L0 (k + 1))).length))])), (a0, .inl (cA, (100, .inl f1_1))), (r1, .inr (0, [.ref a1, .int (nI L1.length)])), (a1, .inl (cA, (100, .inl f1))), (r2, .inr (0, [.ref a2, .int n2])), (a2, .inl (cA, (100, .inl f2))), (r3, .inr (0, [.ref a3, .int n3])), (a3, .inl (cA, (100, .inl f3))), (y0, .inr (2, [.int 0, .int (nI rn), .ref q1, .ref q2, .int mn, .ref q3, .ref q4, .int ct, .int il, .ref q5])), (q1, .inl (cA, (2, .inl sf))), (q2, .inl (cA, (60, .inl l1_3))), (q3, .inl (cA, (320, .inl rf))), (q4, .inl (cA, (320, .inl nf))), (q5, .inl (cA, (6, .inl gf))), (o, .inl (cL, (1, .inr (.inl (vp_updL fo 0 (atL L0 (k + 1)).toInt64)))))] H := hP
        have hD : va_D A [(x0, .inr (1, [.ref r0, .ref r1, .ref r2, .ref r3, .int (nI rn)])), (r0, .inr (0, [.ref a0, .int (nI ((((L0.set k (atL L0 (k + 1))).set (k + 1) (atL L0 k)).set (k + 2) (atL L0 (k + 1))).length))])), (a0, .inl (cA, (100, .inl f1_1))), (r1, .inr (0, [.ref a1, .int (nI L1.length)])), (a1, .inl (cA, (100, .inl f1))), (r2, .inr (0, [.ref a2, .int n2])), (a2, .inl (cA, (100, .inl f2))), (r3, .inr (0, [.ref a3, .int n3])), (a3, .inl (cA, (100, .inl f3))), (y0, .inr (2, [.int 0, .int (nI rn), .ref q1, .ref q2, .int mn, .ref q3, .ref q4, .int ct, .int il, .ref q5])), (q1, .inl (cA, (2, .inl sf))), (q2, .inl (cA, (60, .inl l1_3))), (q3, .inl (cA, (320, .inl rf))), (q4, .inl (cA, (320, .inl nf))), (q5, .inl (cA, (6, .inl gf))), (o, .inl (cL, (1, .inr (.inl (vp_updL fo 0 (atL L0 (k + 1)).toInt64)))))] := hD
        refine lv_istore (lv' := [(6, .int (atL ((V2 L0 L1) 0) (k + 1))), (5, .int 0), (4, .int (nI i)), (3, .ref o), (2, .ref y0), (1, .ref x0), (0, .ref b)]) hx hb dL_law_527 hl (by decide) rfl (fun ls hl => ?_)
        refine lv_aload_n hx hb dL_law_529 rfl (lv_at hl 4 rfl) ?_
        refine g_RVi (As := []) (rest := []) ⟨hx, hb, hml, hown, hts⟩ (mt_X2_thrown l dC dI cA H.size y0 q1 q2 q3 q4 q5 rn 0 sf l1_3 mn rf nf ct il gf) (cwV 0 hts gL_law_X2_thrown rfl rfl rfl hdX2_thrown ⟨Nat.le_of_ble_eq_true rfl, Nat.le_of_ble_eq_true rfl⟩) hP hK hD [9, 10, 11, 12, 13, 14] (by decide) rfl (va_recv hK hP (ci := 2) (q0 := 9) rfl rfl) rfl hl.1 rfl (Nat.le_of_ble_eq_true rfl) dL_law_530 hc0 hs0 ?_
        refine lv_iload hx hb dL_law_533 (lv_at hl 1 rfl) ?_
        refine lv_icmp_eq (tgt := 540) hx hb dL_law_535 (by decide) (fun c535 => ?_) (fun c535 => ?_)
        · refine lv_iload hx hb dL_law_540 (lv_at hl 1 rfl) ?_
          refine lv_if_ne (tgt := 557) hx hb dL_law_542 (by decide) (fun c542 => ?_) (fun c542 => ?_)
          · exact absurd (by decide) c542
          · have c542 : 0 = 0 := g_neF 0 0 (by omega) (by omega) c542
            refine lv_aload_n hx hb dL_law_545 rfl (lv_at hl 3 rfl) ?_
            refine lv_iconst (v := 0) hx hb dL_law_546 (by decide) ?_
            refine va_lald hx hb hKl hP 15 1 rfl rfl (vp_in_nI (n := 0) (by omega) (by decide)) dL_law_547 ?_
            rw [show (0 : Int32).toNatClampNeg = 0 from by decide, pk_uLs]
            refine lv_iload hx hb dL_law_548 (lv_at hl 0 rfl) ?_
            refine lv_i2l (v := (atL ((V2 L0 L1) 0) (k + 1)).toInt64) hx hb dL_law_550 rfl ?_
            refine W.lcmp hx hb dL_law_551 ?_
            rw [show lg_cmp ((atL L0 (k + 1)).toInt64) ((atL ((V2 L0 L1) 0) (k + 1)).toInt64) = 0 from (lg_cmp_eq _ _).mpr rfl]
            refine lv_if_eq (tgt := 557) hx hb dL_law_552 (by decide) (fun c552 => ?_) (fun c552 => ?_)
            · have c552 : 0 = 0 := g_eqT 0 0 (by omega) (by omega) c552
              refine lv_goto (tgt := 1241) hx hb dL_law_557 (by decide) ?_
              exact kk rn (((L0.set k (atL L0 (k + 1))).set (k + 1) (atL L0 k)).set (k + 2) (atL L0 (k + 1))) L1 _ _ _ _ _ ⟨f1_1, f1, n2, f2, n3, f3, 0, sf, l1_3, mn, rf, nf, ct, il, gf, vp_updL fo 0 (atL L0 (k + 1)).toInt64, hP, hD, hS, hw_2, hR1, by rw [List.length_set, List.length_set, List.length_set]; exact hl0, hl1, hrn, hr6, okL_set (okL_set (okL_set hk0 (okL_at hk0 (by omega))) (okL_at hk0 (by omega))) (okL_at hk0 (by omega)), hk1, MW_c0 hw_4⟩ (by omega) (by omega) (lv_sub hl [2, 3, 4, 5, 6] rfl)
            · exact absurd (by decide) c552
        · exact absurd (by decide) c535
      · refine lv_aload_n hx hb dL_law_492 rfl (lv_at hl 3 rfl) ?_
        refine lv_aload_n hx hb dL_law_493 rfl (lv_at hl 4 rfl) ?_
        refine lv_iload hx hb dL_law_494 (lv_at hl 0 rfl) ?_
        refine lv_iconst (v := 1) hx hb dL_law_496 (by decide) ?_
        refine lv_iadd hx hb dL_law_497 ?_
        rw [show (nI i) + 1 = nI (i + 1) from nI_add i 1]
        refine va_sld hx hb hX hbl hbA hS (vp_in_nI (by omega) (by omega)) dL_law_498 ?_
        rw [show (nI (i + 1)).toNatClampNeg = i + 1 from nI_clamp (by omega)]
        rw [h1]
        refine lv_aload_n hx hb dL_law_499 rfl (lv_at hl 4 rfl) ?_
        refine lv_iload hx hb dL_law_500 (lv_at hl 0 rfl) ?_
        refine lv_iconst (v := 2) hx hb dL_law_502 (by decide) ?_
        refine lv_iadd hx hb dL_law_503 ?_
        rw [show (nI i) + 2 = nI (i + 2) from nI_add i 2]
        refine va_sld hx hb hX hbl hbA hS (vp_in_nI (by omega) (by omega)) dL_law_504 ?_
        rw [show (nI (i + 2)).toNatClampNeg = i + 2 from nI_clamp (by omega)]
        rw [h2]
        refine lv_aload_n hx hb dL_law_505 rfl (lv_at hl 1 rfl) ?_
        refine g_LS (As := [.ref x0, .int (nI 0), .int (nI k), .ref o]) (rest := []) ⟨hx, hb, hml, hown, hts⟩ (mt_L_about_2_0 l htr dC dI cA cL H.size x0 r0 r1 r2 r3 rn a0 L0 f0 k o fo hR0 (by omega) hno9) (vx_cwSW 4 hts gL_law_L_about rfl rfl rfl hdL_about ⟨Nat.le_of_ble_eq_true rfl, Nat.le_of_ble_eq_true rfl⟩) hP hKl hD hS hA hZ [0, 1, 2, 15] (by decide) rfl rfl hl.1 rfl (Nat.le_of_ble_eq_true rfl) dL_law_506 hc1 hs1 (fun u9 => [(x0, .inr (1, [.ref r0, .ref r1, .ref r2, .ref r3, .int (nI rn)])), (r0, .inr (0, [.ref a0, .int (nI L0.length)])), (a0, .inl (cA, (100, .inl f0))), (r1, .inr (0, [.ref a1, .int (nI L1.length)])), (a1, .inl (cA, (100, .inl f1))), (r2, .inr (0, [.ref a2, .int n2])), (a2, .inl (cA, (100, .inl f2))), (r3, .inr (0, [.ref a3, .int n3])), (a3, .inl (cA, (100, .inl f3))), (y0, .inr (2, [.int tv, .int (nI rn), .ref q1, .ref q2, .int mn, .ref q3, .ref q4, .int ct, .int il, .ref q5])), (q1, .inl (cA, (2, .inl sf))), (q2, .inl (cA, (60, .inl lf))), (q3, .inl (cA, (320, .inl rf))), (q4, .inl (cA, (320, .inl nf))), (q5, .inl (cA, (6, .inl gf))), (o, .inl (cL, (1, .inr (.inl fo))))]) (fun _ => rfl) (fun _ => rfl) (fun u H locs hw_1 hP hD hS => ?_)
        have hP : va_P (dC, dI) vwCl [(x0, .inr (1, [.ref r0, .ref r1, .ref r2, .ref r3, .int (nI rn)])), (r0, .inr (0, [.ref a0, .int (nI L0.length)])), (a0, .inl (cA, (100, .inl f0))), (r1, .inr (0, [.ref a1, .int (nI L1.length)])), (a1, .inl (cA, (100, .inl f1))), (r2, .inr (0, [.ref a2, .int n2])), (a2, .inl (cA, (100, .inl f2))), (r3, .inr (0, [.ref a3, .int n3])), (a3, .inl (cA, (100, .inl f3))), (y0, .inr (2, [.int tv, .int (nI rn), .ref q1, .ref q2, .int mn, .ref q3, .ref q4, .int ct, .int il, .ref q5])), (q1, .inl (cA, (2, .inl sf))), (q2, .inl (cA, (60, .inl lf))), (q3, .inl (cA, (320, .inl rf))), (q4, .inl (cA, (320, .inl nf))), (q5, .inl (cA, (6, .inl gf))), (o, .inl (cL, (1, .inr (.inl fo))))] H := hP
        have hD : va_D A [(x0, .inr (1, [.ref r0, .ref r1, .ref r2, .ref r3, .int (nI rn)])), (r0, .inr (0, [.ref a0, .int (nI L0.length)])), (a0, .inl (cA, (100, .inl f0))), (r1, .inr (0, [.ref a1, .int (nI L1.length)])), (a1, .inl (cA, (100, .inl f1))), (r2, .inr (0, [.ref a2, .int n2])), (a2, .inl (cA, (100, .inl f2))), (r3, .inr (0, [.ref a3, .int n3])), (a3, .inl (cA, (100, .inl f3))), (y0, .inr (2, [.int tv, .int (nI rn), .ref q1, .ref q2, .int mn, .ref q3, .ref q4, .int ct, .int il, .ref q5])), (q1, .inl (cA, (2, .inl sf))), (q2, .inl (cA, (60, .inl lf))), (q3, .inl (cA, (320, .inl rf))), (q4, .inl (cA, (320, .inl nf))), (q5, .inl (cA, (6, .inl gf))), (o, .inl (cL, (1, .inr (.inl fo))))] := hD
        refine lv_istore (lv' := [(5, .int 2), (4, .int (nI i)), (3, .ref o), (2, .ref y0), (1, .ref x0), (0, .ref b)]) hx hb dL_law_509 hl (by decide) rfl (fun ls hl => ?_)
        refine lv_aload_n hx hb dL_law_511 rfl (lv_at hl 3 rfl) ?_
        refine lv_aload_n hx hb dL_law_512 rfl (lv_at hl 5 rfl) ?_
        refine lv_iload hx hb dL_law_513 (lv_at hl 1 rfl) ?_
        refine lv_iconst (v := 1) hx hb dL_law_515 (by decide) ?_
        refine lv_iadd hx hb dL_law_516 ?_
        rw [show (nI i) + 1 = nI (i + 1) from nI_add i 1]
        refine va_sld hx hb hX hbl hbA hS (vp_in_nI (by omega) (by omega)) dL_law_517 ?_
        rw [show (nI (i + 1)).toNatClampNeg = i + 1 from nI_clamp (by omega)]
        rw [h1]
        refine lv_aload_n hx hb dL_law_518 rfl (lv_at hl 5 rfl) ?_
        refine lv_iload hx hb dL_law_519 (lv_at hl 1 rfl) ?_
        refine lv_iconst (v := 2) hx hb dL_law_521 (by decide) ?_
        refine lv_iadd hx hb dL_law_522 ?_
        rw [show (nI i) + 2 = nI (i + 2) from nI_add i 2]
        refine va_sld hx hb hX hbl hbA hS (vp_in_nI (by omega) (by omega)) dL_law_523 ?_
        rw [show (nI (i + 2)).toNatClampNeg = i + 2 from nI_clamp (by omega)]
        rw [h2]
        refine g_MVi (As := [.int (nI 0), .int (nI k)]) (rest := []) ⟨hx, hb, hml, hown, hts⟩ (mt_X2_about_2 l dC dI cA H.size y0 q1 q2 q3 q4 q5 rn tv sf lf mn rf nf ct il gf (V2 L0 L1) 0 k hW (by omega) hrn hk0 (show k + 2 < L0.length from by omega) hno9) (cwV 2 hts gL_law_X2_about rfl rfl rfl hdX2_about ⟨Nat.le_of_ble_eq_true rfl, Nat.le_of_ble_eq_true rfl⟩) hP hK hD hS hA [9, 10, 11, 12, 13, 14] (by decide) rfl (va_recv hK hP (ci := 2) (q0 := 9) rfl rfl) rfl hl.1 rfl (Nat.le_of_ble_eq_true rfl) dL_law_524 hc1 hs1 (fun u9 => [(x0, .inr (1, [.ref r0, .ref r1, .ref r2, .ref r3, .int (nI rn)])), (r0, .inr (0, [.ref a0, .int (nI L0.length)])), (a0, .inl (cA, (100, .inl f0))), (r1, .inr (0, [.ref a1, .int (nI L1.length)])), (a1, .inl (cA, (100, .inl f1))), (r2, .inr (0, [.ref a2, .int n2])), (a2, .inl (cA, (100, .inl f2))), (r3, .inr (0, [.ref a3, .int n3])), (a3, .inl (cA, (100, .inl f3))), (y0, .inr (2, [.int 2, .int (nI rn), .ref q1, .ref q2, .int mn, .ref q3, .ref q4, .int ct, .int il, .ref q5])), (q1, .inl (cA, (2, .inl sf))), (q2, .inl (cA, (60, .inl lf))), (q3, .inl (cA, (320, .inl rf))), (q4, .inl (cA, (320, .inl nf))), (q5, .inl (cA, (6, .inl gf))), (o, .inl (cL, (1, .inr (.inl fo))))]) (fun _ => rfl) (fun _ => rfl) (fun u H locs hw_2 hP hD hS => ?_)
        have hw_2 : True := hw_2
        have hP : va_P (dC, dI) vwCl [(x0, .inr (1, [.ref r0, .ref r1, .ref r2, .ref r3, .int (nI rn)])), (r0, .inr (0, [.ref a0, .int (nI L0.length)])), (a0, .inl (cA, (100, .inl f0))), (r1, .inr (0, [.ref a1, .int (nI L1.length)])), (a1, .inl (cA, (100, .inl f1))), (r2, .inr (0, [.ref a2, .int n2])), (a2, .inl (cA, (100, .inl f2))), (r3, .inr (0, [.ref a3, .int n3])), (a3, .inl (cA, (100, .inl f3))), (y0, .inr (2, [.int 2, .int (nI rn), .ref q1, .ref q2, .int mn, .ref q3, .ref q4, .int ct, .int il, .ref q5])), (q1, .inl (cA, (2, .inl sf))), (q2, .inl (cA, (60, .inl lf))), (q3, .inl (cA, (320, .inl rf))), (q4, .inl (cA, (320, .inl nf))), (q5, .inl (cA, (6, .inl gf))), (o, .inl (cL, (1, .inr (.inl fo))))] H := hP
        have hD : va_D A [(x0, .inr (1, [.ref r0, .ref r1, .ref r2, .ref r3, .int (nI rn)])), (r0, .inr (0, [.ref a0, .int (nI L0.length)])), (a0, .inl (cA, (100, .inl f0))), (r1, .inr (0, [.ref a1, .int (nI L1.length)])), (a1, .inl (cA, (100, .inl f1))), (r2, .inr (0, [.ref a2, .int n2])), (a2, .inl (cA, (100, .inl f2))), (r3, .inr (0, [.ref a3, .int n3])), (a3, .inl (cA, (100, .inl f3))), (y0, .inr (2, [.int 2, .int (nI rn), .ref q1, .ref q2, .int mn, .ref q3, .ref q4, .int ct, .int il, .ref q5])), (q1, .inl (cA, (2, .inl sf))), (q2, .inl (cA, (60, .inl lf))), (q3, .inl (cA, (320, .inl rf))), (q4, .inl (cA, (320, .inl nf))), (q5, .inl (cA, (6, .inl gf))), (o, .inl (cL, (1, .inr (.inl fo))))] := hD
        refine lv_istore (lv' := [(6, .int 0), (5, .int 2), (4, .int (nI i)), (3, .ref o), (2, .ref y0), (1, .ref x0), (0, .ref b)]) hx hb dL_law_527 hl (by decide) rfl (fun ls hl => ?_)
        refine lv_aload_n hx hb dL_law_529 rfl (lv_at hl 4 rfl) ?_
        refine g_RVi (As := []) (rest := []) ⟨hx, hb, hml, hown, hts⟩ (mt_X2_thrown l dC dI cA H.size y0 q1 q2 q3 q4 q5 rn 2 sf lf mn rf nf ct il gf) (cwV 0 hts gL_law_X2_thrown rfl rfl rfl hdX2_thrown ⟨Nat.le_of_ble_eq_true rfl, Nat.le_of_ble_eq_true rfl⟩) hP hK hD [9, 10, 11, 12, 13, 14] (by decide) rfl (va_recv hK hP (ci := 2) (q0 := 9) rfl rfl) rfl hl.1 rfl (Nat.le_of_ble_eq_true rfl) dL_law_530 hc1 hs1 ?_
        refine lv_iload hx hb dL_law_533 (lv_at hl 1 rfl) ?_
        refine lv_icmp_eq (tgt := 540) hx hb dL_law_535 (by decide) (fun c535 => ?_) (fun c535 => ?_)
        · refine lv_iload hx hb dL_law_540 (lv_at hl 1 rfl) ?_
          refine lv_if_ne (tgt := 557) hx hb dL_law_542 (by decide) (fun c542 => ?_) (fun c542 => ?_)
          · have c542 : ¬ 2 = 0 := g_neT 2 0 (by omega) (by omega) c542
            refine lv_goto (tgt := 1241) hx hb dL_law_557 (by decide) ?_
            exact kk rn L0 L1 _ _ _ _ _ ⟨f0, f1, n2, f2, n3, f3, 2, sf, lf, mn, rf, nf, ct, il, gf, fo, hP, hD, hS, hR0, hR1, hl0, hl1, hrn, hr6, hk0, hk1, hW⟩ (by omega) (by omega) (lv_sub hl [2, 3, 4, 5, 6] rfl)
          · exact absurd c542 (by decide)
        · exact absurd (by decide) c535
  · rcases pk_ix (xs (i + 2)) (n := L1.length - 2) (by omega) with hbad | hbad | ⟨k, hk9, h2⟩
    · refine lv_aload_n hx hb dL_law_492 rfl (lv_at hl 3 rfl) ?_
      refine lv_aload_n hx hb dL_law_493 rfl (lv_at hl 4 rfl) ?_
      refine lv_iload hx hb dL_law_494 (lv_at hl 0 rfl) ?_
      refine lv_iconst (v := 1) hx hb dL_law_496 (by decide) ?_
      refine lv_iadd hx hb dL_law_497 ?_
      rw [show (nI i) + 1 = nI (i + 1) from nI_add i 1]
      refine va_sld hx hb hX hbl hbA hS (vp_in_nI (by omega) (by omega)) dL_law_498 ?_
      rw [show (nI (i + 1)).toNatClampNeg = i + 1 from nI_clamp (by omega)]
      rw [h1]
      refine lv_aload_n hx hb dL_law_499 rfl (lv_at hl 4 rfl) ?_
      refine lv_iload hx hb dL_law_500 (lv_at hl 0 rfl) ?_
      refine lv_iconst (v := 2) hx hb dL_law_502 (by decide) ?_
      refine lv_iadd hx hb dL_law_503 ?_
      rw [show (nI i) + 2 = nI (i + 2) from nI_add i 2]
      refine va_sld hx hb hX hbl hbA hS (vp_in_nI (by omega) (by omega)) dL_law_504 ?_
      rw [show (nI (i + 2)).toNatClampNeg = i + 2 from nI_clamp (by omega)]
      refine lv_aload_n hx hb dL_law_505 rfl (lv_at hl 1 rfl) ?_
      refine g_LS (As := [.ref x0, .int (nI 1), .int (xs (i + 2)), .ref o]) (rest := []) ⟨hx, hb, hml, hown, hts⟩ (mt_L_about_1b_1 l htr dC dI cA cL H.size x0 r0 r1 r2 r3 rn a1 L1 f1 (xs (i + 2)) o fo hR1 (ab_bad hl1 (Or.inl hbad))) (vx_cwSW 4 hts gL_law_L_about rfl rfl rfl hdL_about ⟨Nat.le_of_ble_eq_true rfl, Nat.le_of_ble_eq_true rfl⟩) hP hKl hD hS hA hZ [0, 3, 4, 15] (by decide) rfl rfl hl.1 rfl (Nat.le_of_ble_eq_true rfl) dL_law_506 hc1 hs1 (fun u9 => [(x0, .inr (1, [.ref r0, .ref r1, .ref r2, .ref r3, .int (nI rn)])), (r0, .inr (0, [.ref a0, .int (nI L0.length)])), (a0, .inl (cA, (100, .inl f0))), (r1, .inr (0, [.ref a1, .int (nI L1.length)])), (a1, .inl (cA, (100, .inl f1))), (r2, .inr (0, [.ref a2, .int n2])), (a2, .inl (cA, (100, .inl f2))), (r3, .inr (0, [.ref a3, .int n3])), (a3, .inl (cA, (100, .inl f3))), (y0, .inr (2, [.int tv, .int (nI rn), .ref q1, .ref q2, .int mn, .ref q3, .ref q4, .int ct, .int il, .ref q5])), (q1, .inl (cA, (2, .inl sf))), (q2, .inl (cA, (60, .inl lf))), (q3, .inl (cA, (320, .inl rf))), (q4, .inl (cA, (320, .inl nf))), (q5, .inl (cA, (6, .inl gf))), (o, .inl (cL, (1, .inr (.inl fo))))]) (fun _ => rfl) (fun _ => rfl) (fun u H locs hw_1 hP hD hS => ?_)
      have hP : va_P (dC, dI) vwCl [(x0, .inr (1, [.ref r0, .ref r1, .ref r2, .ref r3, .int (nI rn)])), (r0, .inr (0, [.ref a0, .int (nI L0.length)])), (a0, .inl (cA, (100, .inl f0))), (r1, .inr (0, [.ref a1, .int (nI L1.length)])), (a1, .inl (cA, (100, .inl f1))), (r2, .inr (0, [.ref a2, .int n2])), (a2, .inl (cA, (100, .inl f2))), (r3, .inr (0, [.ref a3, .int n3])), (a3, .inl (cA, (100, .inl f3))), (y0, .inr (2, [.int tv, .int (nI rn), .ref q1, .ref q2, .int mn, .ref q3, .ref q4, .int ct, .int il, .ref q5])), (q1, .inl (cA, (2, .inl sf))), (q2, .inl (cA, (60, .inl lf))), (q3, .inl (cA, (320, .inl rf))), (q4, .inl (cA, (320, .inl nf))), (q5, .inl (cA, (6, .inl gf))), (o, .inl (cL, (1, .inr (.inl fo))))] H := hP
      have hD : va_D A [(x0, .inr (1, [.ref r0, .ref r1, .ref r2, .ref r3, .int (nI rn)])), (r0, .inr (0, [.ref a0, .int (nI L0.length)])), (a0, .inl (cA, (100, .inl f0))), (r1, .inr (0, [.ref a1, .int (nI L1.length)])), (a1, .inl (cA, (100, .inl f1))), (r2, .inr (0, [.ref a2, .int n2])), (a2, .inl (cA, (100, .inl f2))), (r3, .inr (0, [.ref a3, .int n3])), (a3, .inl (cA, (100, .inl f3))), (y0, .inr (2, [.int tv, .int (nI rn), .ref q1, .ref q2, .int mn, .ref q3, .ref q4, .int ct, .int il, .ref q5])), (q1, .inl (cA, (2, .inl sf))), (q2, .inl (cA, (60, .inl lf))), (q3, .inl (cA, (320, .inl rf))), (q4, .inl (cA, (320, .inl nf))), (q5, .inl (cA, (6, .inl gf))), (o, .inl (cL, (1, .inr (.inl fo))))] := hD
      refine lv_istore (lv' := [(5, .int 1), (4, .int (nI i)), (3, .ref o), (2, .ref y0), (1, .ref x0), (0, .ref b)]) hx hb dL_law_509 hl (by decide) rfl (fun ls hl => ?_)
      refine lv_aload_n hx hb dL_law_511 rfl (lv_at hl 3 rfl) ?_
      refine lv_aload_n hx hb dL_law_512 rfl (lv_at hl 5 rfl) ?_
      refine lv_iload hx hb dL_law_513 (lv_at hl 1 rfl) ?_
      refine lv_iconst (v := 1) hx hb dL_law_515 (by decide) ?_
      refine lv_iadd hx hb dL_law_516 ?_
      rw [show (nI i) + 1 = nI (i + 1) from nI_add i 1]
      refine va_sld hx hb hX hbl hbA hS (vp_in_nI (by omega) (by omega)) dL_law_517 ?_
      rw [show (nI (i + 1)).toNatClampNeg = i + 1 from nI_clamp (by omega)]
      rw [h1]
      refine lv_aload_n hx hb dL_law_518 rfl (lv_at hl 5 rfl) ?_
      refine lv_iload hx hb dL_law_519 (lv_at hl 1 rfl) ?_
      refine lv_iconst (v := 2) hx hb dL_law_521 (by decide) ?_
      refine lv_iadd hx hb dL_law_522 ?_
      rw [show (nI i) + 2 = nI (i + 2) from nI_add i 2]
      refine va_sld hx hb hX hbl hbA hS (vp_in_nI (by omega) (by omega)) dL_law_523 ?_
      rw [show (nI (i + 2)).toNatClampNeg = i + 2 from nI_clamp (by omega)]
      refine g_MVi (As := [.int (nI 1), .int (xs (i + 2))]) (rest := []) ⟨hx, hb, hml, hown, hts⟩ (mt_X2_about_1b l dC dI cA H.size y0 q1 q2 q3 q4 q5 rn tv sf lf mn rf nf ct il gf (V2 L0 L1) 1 (xs (i + 2)) hW (by omega) (Or.inl hbad)) (cwV 2 hts gL_law_X2_about rfl rfl rfl hdX2_about ⟨Nat.le_of_ble_eq_true rfl, Nat.le_of_ble_eq_true rfl⟩) hP hK hD hS hA [9, 10, 11, 12, 13, 14] (by decide) rfl (va_recv hK hP (ci := 2) (q0 := 9) rfl rfl) rfl hl.1 rfl (Nat.le_of_ble_eq_true rfl) dL_law_524 hc1 hs1 (fun u9 => [(x0, .inr (1, [.ref r0, .ref r1, .ref r2, .ref r3, .int (nI rn)])), (r0, .inr (0, [.ref a0, .int (nI L0.length)])), (a0, .inl (cA, (100, .inl f0))), (r1, .inr (0, [.ref a1, .int (nI L1.length)])), (a1, .inl (cA, (100, .inl f1))), (r2, .inr (0, [.ref a2, .int n2])), (a2, .inl (cA, (100, .inl f2))), (r3, .inr (0, [.ref a3, .int n3])), (a3, .inl (cA, (100, .inl f3))), (y0, .inr (2, [.int 1, .int (nI rn), .ref q1, .ref q2, .int mn, .ref q3, .ref q4, .int ct, .int il, .ref q5])), (q1, .inl (cA, (2, .inl sf))), (q2, .inl (cA, (60, .inl lf))), (q3, .inl (cA, (320, .inl rf))), (q4, .inl (cA, (320, .inl nf))), (q5, .inl (cA, (6, .inl gf))), (o, .inl (cL, (1, .inr (.inl fo))))]) (fun _ => rfl) (fun _ => rfl) (fun u H locs hw_2 hP hD hS => ?_)
      have hw_2 : True := hw_2
      have hP : va_P (dC, dI) vwCl [(x0, .inr (1, [.ref r0, .ref r1, .ref r2, .ref r3, .int (nI rn)])), (r0, .inr (0, [.ref a0, .int (nI L0.length)])), (a0, .inl (cA, (100, .inl f0))), (r1, .inr (0, [.ref a1, .int (nI L1.length)])), (a1, .inl (cA, (100, .inl f1))), (r2, .inr (0, [.ref a2, .int n2])), (a2, .inl (cA, (100, .inl f2))), (r3, .inr (0, [.ref a3, .int n3])), (a3, .inl (cA, (100, .inl f3))), (y0, .inr (2, [.int 1, .int (nI rn), .ref q1, .ref q2, .int mn, .ref q3, .ref q4, .int ct, .int il, .ref q5])), (q1, .inl (cA, (2, .inl sf))), (q2, .inl (cA, (60, .inl lf))), (q3, .inl (cA, (320, .inl rf))), (q4, .inl (cA, (320, .inl nf))), (q5, .inl (cA, (6, .inl gf))), (o, .inl (cL, (1, .inr (.inl fo))))] H := hP
      have hD : va_D A [(x0, .inr (1, [.ref r0, .ref r1, .ref r2, .ref r3, .int (nI rn)])), (r0, .inr (0, [.ref a0, .int (nI L0.length)])), (a0, .inl (cA, (100, .inl f0))), (r1, .inr (0, [.ref a1, .int (nI L1.length)])), (a1, .inl (cA, (100, .inl f1))), (r2, .inr (0, [.ref a2, .int n2])), (a2, .inl (cA, (100, .inl f2))), (r3, .inr (0, [.ref a3, .int n3])), (a3, .inl (cA, (100, .inl f3))), (y0, .inr (2, [.int 1, .int (nI rn), .ref q1, .ref q2, .int mn, .ref q3, .ref q4, .int ct, .int il, .ref q5])), (q1, .inl (cA, (2, .inl sf))), (q2, .inl (cA, (60, .inl lf))), (q3, .inl (cA, (320, .inl rf))), (q4, .inl (cA, (320, .inl nf))), (q5, .inl (cA, (6, .inl gf))), (o, .inl (cL, (1, .inr (.inl fo))))] := hD
      refine lv_istore (lv' := [(6, .int 0), (5, .int 1), (4, .int (nI i)), (3, .ref o), (2, .ref y0), (1, .ref x0), (0, .ref b)]) hx hb dL_law_527 hl (by decide) rfl (fun ls hl => ?_)
      refine lv_aload_n hx hb dL_law_529 rfl (lv_at hl 4 rfl) ?_
      refine g_RVi (As := []) (rest := []) ⟨hx, hb, hml, hown, hts⟩ (mt_X2_thrown l dC dI cA H.size y0 q1 q2 q3 q4 q5 rn 1 sf lf mn rf nf ct il gf) (cwV 0 hts gL_law_X2_thrown rfl rfl rfl hdX2_thrown ⟨Nat.le_of_ble_eq_true rfl, Nat.le_of_ble_eq_true rfl⟩) hP hK hD [9, 10, 11, 12, 13, 14] (by decide) rfl (va_recv hK hP (ci := 2) (q0 := 9) rfl rfl) rfl hl.1 rfl (Nat.le_of_ble_eq_true rfl) dL_law_530 hc1 hs1 ?_
      refine lv_iload hx hb dL_law_533 (lv_at hl 1 rfl) ?_
      refine lv_icmp_eq (tgt := 540) hx hb dL_law_535 (by decide) (fun c535 => ?_) (fun c535 => ?_)
      · refine lv_iload hx hb dL_law_540 (lv_at hl 1 rfl) ?_
        refine lv_if_ne (tgt := 557) hx hb dL_law_542 (by decide) (fun c542 => ?_) (fun c542 => ?_)
        · have c542 : ¬ 1 = 0 := g_neT 1 0 (by omega) (by omega) c542
          refine lv_goto (tgt := 1241) hx hb dL_law_557 (by decide) ?_
          exact kk rn L0 L1 _ _ _ _ _ ⟨f0, f1, n2, f2, n3, f3, 1, sf, lf, mn, rf, nf, ct, il, gf, fo, hP, hD, hS, hR0, hR1, hl0, hl1, hrn, hr6, hk0, hk1, hW⟩ (by omega) (by omega) (lv_sub hl [2, 3, 4, 5, 6] rfl)
        · exact absurd c542 (by decide)
      · exact absurd (by decide) c535
    · refine lv_aload_n hx hb dL_law_492 rfl (lv_at hl 3 rfl) ?_
      refine lv_aload_n hx hb dL_law_493 rfl (lv_at hl 4 rfl) ?_
      refine lv_iload hx hb dL_law_494 (lv_at hl 0 rfl) ?_
      refine lv_iconst (v := 1) hx hb dL_law_496 (by decide) ?_
      refine lv_iadd hx hb dL_law_497 ?_
      rw [show (nI i) + 1 = nI (i + 1) from nI_add i 1]
      refine va_sld hx hb hX hbl hbA hS (vp_in_nI (by omega) (by omega)) dL_law_498 ?_
      rw [show (nI (i + 1)).toNatClampNeg = i + 1 from nI_clamp (by omega)]
      rw [h1]
      refine lv_aload_n hx hb dL_law_499 rfl (lv_at hl 4 rfl) ?_
      refine lv_iload hx hb dL_law_500 (lv_at hl 0 rfl) ?_
      refine lv_iconst (v := 2) hx hb dL_law_502 (by decide) ?_
      refine lv_iadd hx hb dL_law_503 ?_
      rw [show (nI i) + 2 = nI (i + 2) from nI_add i 2]
      refine va_sld hx hb hX hbl hbA hS (vp_in_nI (by omega) (by omega)) dL_law_504 ?_
      rw [show (nI (i + 2)).toNatClampNeg = i + 2 from nI_clamp (by omega)]
      refine lv_aload_n hx hb dL_law_505 rfl (lv_at hl 1 rfl) ?_
      refine g_LS (As := [.ref x0, .int (nI 1), .int (xs (i + 2)), .ref o]) (rest := []) ⟨hx, hb, hml, hown, hts⟩ (mt_L_about_1b_1 l htr dC dI cA cL H.size x0 r0 r1 r2 r3 rn a1 L1 f1 (xs (i + 2)) o fo hR1 (ab_bad hl1 (Or.inr hbad))) (vx_cwSW 4 hts gL_law_L_about rfl rfl rfl hdL_about ⟨Nat.le_of_ble_eq_true rfl, Nat.le_of_ble_eq_true rfl⟩) hP hKl hD hS hA hZ [0, 3, 4, 15] (by decide) rfl rfl hl.1 rfl (Nat.le_of_ble_eq_true rfl) dL_law_506 hc1 hs1 (fun u9 => [(x0, .inr (1, [.ref r0, .ref r1, .ref r2, .ref r3, .int (nI rn)])), (r0, .inr (0, [.ref a0, .int (nI L0.length)])), (a0, .inl (cA, (100, .inl f0))), (r1, .inr (0, [.ref a1, .int (nI L1.length)])), (a1, .inl (cA, (100, .inl f1))), (r2, .inr (0, [.ref a2, .int n2])), (a2, .inl (cA, (100, .inl f2))), (r3, .inr (0, [.ref a3, .int n3])), (a3, .inl (cA, (100, .inl f3))), (y0, .inr (2, [.int tv, .int (nI rn), .ref q1, .ref q2, .int mn, .ref q3, .ref q4, .int ct, .int il, .ref q5])), (q1, .inl (cA, (2, .inl sf))), (q2, .inl (cA, (60, .inl lf))), (q3, .inl (cA, (320, .inl rf))), (q4, .inl (cA, (320, .inl nf))), (q5, .inl (cA, (6, .inl gf))), (o, .inl (cL, (1, .inr (.inl fo))))]) (fun _ => rfl) (fun _ => rfl) (fun u H locs hw_1 hP hD hS => ?_)
      have hP : va_P (dC, dI) vwCl [(x0, .inr (1, [.ref r0, .ref r1, .ref r2, .ref r3, .int (nI rn)])), (r0, .inr (0, [.ref a0, .int (nI L0.length)])), (a0, .inl (cA, (100, .inl f0))), (r1, .inr (0, [.ref a1, .int (nI L1.length)])), (a1, .inl (cA, (100, .inl f1))), (r2, .inr (0, [.ref a2, .int n2])), (a2, .inl (cA, (100, .inl f2))), (r3, .inr (0, [.ref a3, .int n3])), (a3, .inl (cA, (100, .inl f3))), (y0, .inr (2, [.int tv, .int (nI rn), .ref q1, .ref q2, .int mn, .ref q3, .ref q4, .int ct, .int il, .ref q5])), (q1, .inl (cA, (2, .inl sf))), (q2, .inl (cA, (60, .inl lf))), (q3, .inl (cA, (320, .inl rf))), (q4, .inl (cA, (320, .inl nf))), (q5, .inl (cA, (6, .inl gf))), (o, .inl (cL, (1, .inr (.inl fo))))] H := hP
      have hD : va_D A [(x0, .inr (1, [.ref r0, .ref r1, .ref r2, .ref r3, .int (nI rn)])), (r0, .inr (0, [.ref a0, .int (nI L0.length)])), (a0, .inl (cA, (100, .inl f0))), (r1, .inr (0, [.ref a1, .int (nI L1.length)])), (a1, .inl (cA, (100, .inl f1))), (r2, .inr (0, [.ref a2, .int n2])), (a2, .inl (cA, (100, .inl f2))), (r3, .inr (0, [.ref a3, .int n3])), (a3, .inl (cA, (100, .inl f3))), (y0, .inr (2, [.int tv, .int (nI rn), .ref q1, .ref q2, .int mn, .ref q3, .ref q4, .int ct, .int il, .ref q5])), (q1, .inl (cA, (2, .inl sf))), (q2, .inl (cA, (60, .inl lf))), (q3, .inl (cA, (320, .inl rf))), (q4, .inl (cA, (320, .inl nf))), (q5, .inl (cA, (6, .inl gf))), (o, .inl (cL, (1, .inr (.inl fo))))] := hD
      refine lv_istore (lv' := [(5, .int 1), (4, .int (nI i)), (3, .ref o), (2, .ref y0), (1, .ref x0), (0, .ref b)]) hx hb dL_law_509 hl (by decide) rfl (fun ls hl => ?_)
      refine lv_aload_n hx hb dL_law_511 rfl (lv_at hl 3 rfl) ?_
      refine lv_aload_n hx hb dL_law_512 rfl (lv_at hl 5 rfl) ?_
      refine lv_iload hx hb dL_law_513 (lv_at hl 1 rfl) ?_
      refine lv_iconst (v := 1) hx hb dL_law_515 (by decide) ?_
      refine lv_iadd hx hb dL_law_516 ?_
      rw [show (nI i) + 1 = nI (i + 1) from nI_add i 1]
      refine va_sld hx hb hX hbl hbA hS (vp_in_nI (by omega) (by omega)) dL_law_517 ?_
      rw [show (nI (i + 1)).toNatClampNeg = i + 1 from nI_clamp (by omega)]
      rw [h1]
      refine lv_aload_n hx hb dL_law_518 rfl (lv_at hl 5 rfl) ?_
      refine lv_iload hx hb dL_law_519 (lv_at hl 1 rfl) ?_
      refine lv_iconst (v := 2) hx hb dL_law_521 (by decide) ?_
      refine lv_iadd hx hb dL_law_522 ?_
      rw [show (nI i) + 2 = nI (i + 2) from nI_add i 2]
      refine va_sld hx hb hX hbl hbA hS (vp_in_nI (by omega) (by omega)) dL_law_523 ?_
      rw [show (nI (i + 2)).toNatClampNeg = i + 2 from nI_clamp (by omega)]
      refine g_MVi (As := [.int (nI 1), .int (xs (i + 2))]) (rest := []) ⟨hx, hb, hml, hown, hts⟩ (mt_X2_about_1b l dC dI cA H.size y0 q1 q2 q3 q4 q5 rn tv sf lf mn rf nf ct il gf (V2 L0 L1) 1 (xs (i + 2)) hW (by omega) (Or.inr hbad)) (cwV 2 hts gL_law_X2_about rfl rfl rfl hdX2_about ⟨Nat.le_of_ble_eq_true rfl, Nat.le_of_ble_eq_true rfl⟩) hP hK hD hS hA [9, 10, 11, 12, 13, 14] (by decide) rfl (va_recv hK hP (ci := 2) (q0 := 9) rfl rfl) rfl hl.1 rfl (Nat.le_of_ble_eq_true rfl) dL_law_524 hc1 hs1 (fun u9 => [(x0, .inr (1, [.ref r0, .ref r1, .ref r2, .ref r3, .int (nI rn)])), (r0, .inr (0, [.ref a0, .int (nI L0.length)])), (a0, .inl (cA, (100, .inl f0))), (r1, .inr (0, [.ref a1, .int (nI L1.length)])), (a1, .inl (cA, (100, .inl f1))), (r2, .inr (0, [.ref a2, .int n2])), (a2, .inl (cA, (100, .inl f2))), (r3, .inr (0, [.ref a3, .int n3])), (a3, .inl (cA, (100, .inl f3))), (y0, .inr (2, [.int 1, .int (nI rn), .ref q1, .ref q2, .int mn, .ref q3, .ref q4, .int ct, .int il, .ref q5])), (q1, .inl (cA, (2, .inl sf))), (q2, .inl (cA, (60, .inl lf))), (q3, .inl (cA, (320, .inl rf))), (q4, .inl (cA, (320, .inl nf))), (q5, .inl (cA, (6, .inl gf))), (o, .inl (cL, (1, .inr (.inl fo))))]) (fun _ => rfl) (fun _ => rfl) (fun u H locs hw_2 hP hD hS => ?_)
      have hw_2 : True := hw_2
      have hP : va_P (dC, dI) vwCl [(x0, .inr (1, [.ref r0, .ref r1, .ref r2, .ref r3, .int (nI rn)])), (r0, .inr (0, [.ref a0, .int (nI L0.length)])), (a0, .inl (cA, (100, .inl f0))), (r1, .inr (0, [.ref a1, .int (nI L1.length)])), (a1, .inl (cA, (100, .inl f1))), (r2, .inr (0, [.ref a2, .int n2])), (a2, .inl (cA, (100, .inl f2))), (r3, .inr (0, [.ref a3, .int n3])), (a3, .inl (cA, (100, .inl f3))), (y0, .inr (2, [.int 1, .int (nI rn), .ref q1, .ref q2, .int mn, .ref q3, .ref q4, .int ct, .int il, .ref q5])), (q1, .inl (cA, (2, .inl sf))), (q2, .inl (cA, (60, .inl lf))), (q3, .inl (cA, (320, .inl rf))), (q4, .inl (cA, (320, .inl nf))), (q5, .inl (cA, (6, .inl gf))), (o, .inl (cL, (1, .inr (.inl fo))))] H := hP
      have hD : va_D A [(x0, .inr (1, [.ref r0, .ref r1, .ref r2, .ref r3, .int (nI rn)])), (r0, .inr (0, [.ref a0, .int (nI L0.length)])), (a0, .inl (cA, (100, .inl f0))), (r1, .inr (0, [.ref a1, .int (nI L1.length)])), (a1, .inl (cA, (100, .inl f1))), (r2, .inr (0, [.ref a2, .int n2])), (a2, .inl (cA, (100, .inl f2))), (r3, .inr (0, [.ref a3, .int n3])), (a3, .inl (cA, (100, .inl f3))), (y0, .inr (2, [.int 1, .int (nI rn), .ref q1, .ref q2, .int mn, .ref q3, .ref q4, .int ct, .int il, .ref q5])), (q1, .inl (cA, (2, .inl sf))), (q2, .inl (cA, (60, .inl lf))), (q3, .inl (cA, (320, .inl rf))), (q4, .inl (cA, (320, .inl nf))), (q5, .inl (cA, (6, .inl gf))), (o, .inl (cL, (1, .inr (.inl fo))))] := hD
      refine lv_istore (lv' := [(6, .int 0), (5, .int 1), (4, .int (nI i)), (3, .ref o), (2, .ref y0), (1, .ref x0), (0, .ref b)]) hx hb dL_law_527 hl (by decide) rfl (fun ls hl => ?_)
      refine lv_aload_n hx hb dL_law_529 rfl (lv_at hl 4 rfl) ?_
      refine g_RVi (As := []) (rest := []) ⟨hx, hb, hml, hown, hts⟩ (mt_X2_thrown l dC dI cA H.size y0 q1 q2 q3 q4 q5 rn 1 sf lf mn rf nf ct il gf) (cwV 0 hts gL_law_X2_thrown rfl rfl rfl hdX2_thrown ⟨Nat.le_of_ble_eq_true rfl, Nat.le_of_ble_eq_true rfl⟩) hP hK hD [9, 10, 11, 12, 13, 14] (by decide) rfl (va_recv hK hP (ci := 2) (q0 := 9) rfl rfl) rfl hl.1 rfl (Nat.le_of_ble_eq_true rfl) dL_law_530 hc1 hs1 ?_
      refine lv_iload hx hb dL_law_533 (lv_at hl 1 rfl) ?_
      refine lv_icmp_eq (tgt := 540) hx hb dL_law_535 (by decide) (fun c535 => ?_) (fun c535 => ?_)
      · refine lv_iload hx hb dL_law_540 (lv_at hl 1 rfl) ?_
        refine lv_if_ne (tgt := 557) hx hb dL_law_542 (by decide) (fun c542 => ?_) (fun c542 => ?_)
        · have c542 : ¬ 1 = 0 := g_neT 1 0 (by omega) (by omega) c542
          refine lv_goto (tgt := 1241) hx hb dL_law_557 (by decide) ?_
          exact kk rn L0 L1 _ _ _ _ _ ⟨f0, f1, n2, f2, n3, f3, 1, sf, lf, mn, rf, nf, ct, il, gf, fo, hP, hD, hS, hR0, hR1, hl0, hl1, hrn, hr6, hk0, hk1, hW⟩ (by omega) (by omega) (lv_sub hl [2, 3, 4, 5, 6] rfl)
        · exact absurd c542 (by decide)
      · exact absurd (by decide) c535
    · by_cases hno9 : atL L1 (k + 2) = atL L1 k ∧ sgI (atL L1 (k + 1)) = sgI (atL L1 k) ∧ abI (abI (atL L1 (k + 1)) - abI (atL L1 k)) = 1
      · refine lv_aload_n hx hb dL_law_492 rfl (lv_at hl 3 rfl) ?_
        refine lv_aload_n hx hb dL_law_493 rfl (lv_at hl 4 rfl) ?_
        refine lv_iload hx hb dL_law_494 (lv_at hl 0 rfl) ?_
        refine lv_iconst (v := 1) hx hb dL_law_496 (by decide) ?_
        refine lv_iadd hx hb dL_law_497 ?_
        rw [show (nI i) + 1 = nI (i + 1) from nI_add i 1]
        refine va_sld hx hb hX hbl hbA hS (vp_in_nI (by omega) (by omega)) dL_law_498 ?_
        rw [show (nI (i + 1)).toNatClampNeg = i + 1 from nI_clamp (by omega)]
        rw [h1]
        refine lv_aload_n hx hb dL_law_499 rfl (lv_at hl 4 rfl) ?_
        refine lv_iload hx hb dL_law_500 (lv_at hl 0 rfl) ?_
        refine lv_iconst (v := 2) hx hb dL_law_502 (by decide) ?_
        refine lv_iadd hx hb dL_law_503 ?_
        rw [show (nI i) + 2 = nI (i + 2) from nI_add i 2]
        refine va_sld hx hb hX hbl hbA hS (vp_in_nI (by omega) (by omega)) dL_law_504 ?_
        rw [show (nI (i + 2)).toNatClampNeg = i + 2 from nI_clamp (by omega)]
        rw [h2]
        refine lv_aload_n hx hb dL_law_505 rfl (lv_at hl 1 rfl) ?_
        refine g_LS (As := [.ref x0, .int (nI 1), .int (nI k), .ref o]) (rest := []) ⟨hx, hb, hml, hown, hts⟩ (mt_L_about1 l htr dC dI cA cL H.size x0 r0 r1 r2 r3 rn a1 L1 f1 k o fo hR1 (by omega) hno9.1 hno9.2.1 hno9.2.2) (vx_cwSW 4 hts gL_law_L_about rfl rfl rfl hdL_about ⟨Nat.le_of_ble_eq_true rfl, Nat.le_of_ble_eq_true rfl⟩) hP hKl hD hS hA hZ [0, 3, 4, 15] (by decide) rfl rfl hl.1 rfl (Nat.le_of_ble_eq_true rfl) dL_law_506 hc0 hs0 (fun u9 => [(x0, .inr (1, [.ref r0, .ref r1, .ref r2, .ref r3, .int (nI rn)])), (r0, .inr (0, [.ref a0, .int (nI L0.length)])), (a0, .inl (cA, (100, .inl f0))), (r1, .inr (0, [.ref a1, .int (nI ((((L1.set k (atL L1 (k + 1))).set (k + 1) (atL L1 k)).set (k + 2) (atL L1 (k + 1))).length))])), (a1, .inl (cA, (100, .inl u9))), (r2, .inr (0, [.ref a2, .int n2])), (a2, .inl (cA, (100, .inl f2))), (r3, .inr (0, [.ref a3, .int n3])), (a3, .inl (cA, (100, .inl f3))), (y0, .inr (2, [.int tv, .int (nI rn), .ref q1, .ref q2, .int mn, .ref q3, .ref q4, .int ct, .int il, .ref q5])), (q1, .inl (cA, (2, .inl sf))), (q2, .inl (cA, (60, .inl lf))), (q3, .inl (cA, (320, .inl rf))), (q4, .inl (cA, (320, .inl nf))), (q5, .inl (cA, (6, .inl gf))), (o, .inl (cL, (1, .inr (.inl (vp_updL fo 0 (atL L1 (k + 1)).toInt64)))))]) (fun _ => rfl) (fun _ => rfl) (fun u H locs hw_2 hP hD hS => ?_)
        obtain ⟨f1_1, rfl⟩ : ∃ z, z = u := ⟨_, rfl⟩
        have hw_2 : RI (((L1.set k (atL L1 (k + 1))).set (k + 1) (atL L1 k)).set (k + 2) (atL L1 (k + 1))) f1_1 := hw_2
        have hP : va_P (dC, dI) vwCl [(x0, .inr (1, [.ref r0, .ref r1, .ref r2, .ref r3, .int (nI rn)])), (r0, .inr (0, [.ref a0, .int (nI L0.length)])), (a0, .inl (cA, (100, .inl f0))), (r1, .inr (0, [.ref a1, .int (nI ((((L1.set k (atL L1 (k + 1))).set (k + 1) (atL L1 k)).set (k + 2) (atL L1 (k + 1))).length))])), (a1, .inl (cA, (100, .inl f1_1))), (r2, .inr (0, [.ref a2, .int n2])), (a2, .inl (cA, (100, .inl f2))), (r3, .inr (0, [.ref a3, .int n3])), (a3, .inl (cA, (100, .inl f3))), (y0, .inr (2, [.int tv, .int (nI rn), .ref q1, .ref q2, .int mn, .ref q3, .ref q4, .int ct, .int il, .ref q5])), (q1, .inl (cA, (2, .inl sf))), (q2, .inl (cA, (60, .inl lf))), (q3, .inl (cA, (320, .inl rf))), (q4, .inl (cA, (320, .inl nf))), (q5, .inl (cA, (6, .inl gf))), (o, .inl (cL, (1, .inr (.inl (vp_updL fo 0 (atL L1 (k + 1)).toInt64)))))] H := hP
        have hD : va_D A [(x0, .inr (1, [.ref r0, .ref r1, .ref r2, .ref r3, .int (nI rn)])), (r0, .inr (0, [.ref a0, .int (nI L0.length)])), (a0, .inl (cA, (100, .inl f0))), (r1, .inr (0, [.ref a1, .int (nI ((((L1.set k (atL L1 (k + 1))).set (k + 1) (atL L1 k)).set (k + 2) (atL L1 (k + 1))).length))])), (a1, .inl (cA, (100, .inl f1_1))), (r2, .inr (0, [.ref a2, .int n2])), (a2, .inl (cA, (100, .inl f2))), (r3, .inr (0, [.ref a3, .int n3])), (a3, .inl (cA, (100, .inl f3))), (y0, .inr (2, [.int tv, .int (nI rn), .ref q1, .ref q2, .int mn, .ref q3, .ref q4, .int ct, .int il, .ref q5])), (q1, .inl (cA, (2, .inl sf))), (q2, .inl (cA, (60, .inl lf))), (q3, .inl (cA, (320, .inl rf))), (q4, .inl (cA, (320, .inl nf))), (q5, .inl (cA, (6, .inl gf))), (o, .inl (cL, (1, .inr (.inl (vp_updL fo 0 (atL L1 (k + 1)).toInt64)))))] := hD
        refine lv_istore (lv' := [(5, .int 0), (4, .int (nI i)), (3, .ref o), (2, .ref y0), (1, .ref x0), (0, .ref b)]) hx hb dL_law_509 hl (by decide) rfl (fun ls hl => ?_)
        refine lv_aload_n hx hb dL_law_511 rfl (lv_at hl 3 rfl) ?_
        refine lv_aload_n hx hb dL_law_512 rfl (lv_at hl 5 rfl) ?_
        refine lv_iload hx hb dL_law_513 (lv_at hl 1 rfl) ?_
        refine lv_iconst (v := 1) hx hb dL_law_515 (by decide) ?_
        refine lv_iadd hx hb dL_law_516 ?_
        rw [show (nI i) + 1 = nI (i + 1) from nI_add i 1]
        refine va_sld hx hb hX hbl hbA hS (vp_in_nI (by omega) (by omega)) dL_law_517 ?_
        rw [show (nI (i + 1)).toNatClampNeg = i + 1 from nI_clamp (by omega)]
        rw [h1]
        refine lv_aload_n hx hb dL_law_518 rfl (lv_at hl 5 rfl) ?_
        refine lv_iload hx hb dL_law_519 (lv_at hl 1 rfl) ?_
        refine lv_iconst (v := 2) hx hb dL_law_521 (by decide) ?_
        refine lv_iadd hx hb dL_law_522 ?_
        rw [show (nI i) + 2 = nI (i + 2) from nI_add i 2]
        refine va_sld hx hb hX hbl hbA hS (vp_in_nI (by omega) (by omega)) dL_law_523 ?_
        rw [show (nI (i + 2)).toNatClampNeg = i + 2 from nI_clamp (by omega)]
        rw [h2]
        refine g_MVi (As := [.int (nI 1), .int (nI k)]) (rest := []) ⟨hx, hb, hml, hown, hts⟩ (mt_X2_about l dC dI cA H.size y0 q1 q2 q3 q4 q5 rn tv sf lf mn rf nf ct il gf (V2 L0 L1) 1 k hW (by omega) hrn hk1 (show k + 2 < L1.length from by omega) hno9.1 hno9.2.1 hno9.2.2) (cwV 2 hts gL_law_X2_about rfl rfl rfl hdX2_about ⟨Nat.le_of_ble_eq_true rfl, Nat.le_of_ble_eq_true rfl⟩) hP hK hD hS hA [9, 10, 11, 12, 13, 14] (by decide) rfl (va_recv hK hP (ci := 2) (q0 := 9) rfl rfl) rfl hl.1 rfl (Nat.le_of_ble_eq_true rfl) dL_law_524 hc0 hs0 (fun u9 => [(x0, .inr (1, [.ref r0, .ref r1, .ref r2, .ref r3, .int (nI rn)])), (r0, .inr (0, [.ref a0, .int (nI L0.length)])), (a0, .inl (cA, (100, .inl f0))), (r1, .inr (0, [.ref a1, .int (nI ((((L1.set k (atL L1 (k + 1))).set (k + 1) (atL L1 k)).set (k + 2) (atL L1 (k + 1))).length))])), (a1, .inl (cA, (100, .inl f1_1))), (r2, .inr (0, [.ref a2, .int n2])), (a2, .inl (cA, (100, .inl f2))), (r3, .inr (0, [.ref a3, .int n3])), (a3, .inl (cA, (100, .inl f3))), (y0, .inr (2, [.int 0, .int (nI rn), .ref q1, .ref q2, .int mn, .ref q3, .ref q4, .int ct, .int il, .ref q5])), (q1, .inl (cA, (2, .inl sf))), (q2, .inl (cA, (60, .inl u9))), (q3, .inl (cA, (320, .inl rf))), (q4, .inl (cA, (320, .inl nf))), (q5, .inl (cA, (6, .inl gf))), (o, .inl (cL, (1, .inr (.inl (vp_updL fo 0 (atL L1 (k + 1)).toInt64)))))]) (fun _ => rfl) (fun _ => rfl) (fun u H locs hw_4 hP hD hS => ?_)
        obtain ⟨l1_3, rfl⟩ : ∃ z, z = u := ⟨_, rfl⟩
        have hw_4 : MW (upW (V2 L0 L1) 1 (((((V2 L0 L1) 1).set k (atL ((V2 L0 L1) 1) (k + 1))).set (k + 1) (atL ((V2 L0 L1) 1) k)).set (k + 2) (atL ((V2 L0 L1) 1) (k + 1)))) sf l1_3 := hw_4
        have hP : va_P (dC, dI) vwCl [(x0, .inr (1, [.ref r0, .ref r1, .ref r2, .ref r3, .int (nI rn)])), (r0, .inr (0, [.ref a0, .int (nI L0.length)])), (a0, .inl (cA, (100, .inl f0))), (r1, .inr (0, [.ref a1, .int (nI ((((L1.set k (atL L1 (k + 1))).set (k + 1) (atL L1 k)).set (k + 2) (atL L1 (k + 1))).length))])), (a1, .inl (cA, (100, .inl f1_1))), (r2, .inr (0, [.ref a2, .int n2])), (a2, .inl (cA, (100, .inl f2))), (r3, .inr (0, [.ref a3, .int n3])), (a3, .inl (cA, (100, .inl f3))), (y0, .inr (2, [.int 0, .int (nI rn), .ref q1, .ref q2, .int mn, .ref q3, .ref q4, .int ct, .int il, .ref q5])), (q1, .inl (cA, (2, .inl sf))), (q2, .inl (cA, (60, .inl l1_3))), (q3, .inl (cA, (320, .inl rf))), (q4, .inl (cA, (320, .inl nf))), (q5, .inl (cA, (6, .inl gf))), (o, .inl (cL, (1, .inr (.inl (vp_updL fo 0 (atL L1 (k + 1)).toInt64)))))] H := hP
        have hD : va_D A [(x0, .inr (1, [.ref r0, .ref r1, .ref r2, .ref r3, .int (nI rn)])), (r0, .inr (0, [.ref a0, .int (nI L0.length)])), (a0, .inl (cA, (100, .inl f0))), (r1, .inr (0, [.ref a1, .int (nI ((((L1.set k (atL L1 (k + 1))).set (k + 1) (atL L1 k)).set (k + 2) (atL L1 (k + 1))).length))])), (a1, .inl (cA, (100, .inl f1_1))), (r2, .inr (0, [.ref a2, .int n2])), (a2, .inl (cA, (100, .inl f2))), (r3, .inr (0, [.ref a3, .int n3])), (a3, .inl (cA, (100, .inl f3))), (y0, .inr (2, [.int 0, .int (nI rn), .ref q1, .ref q2, .int mn, .ref q3, .ref q4, .int ct, .int il, .ref q5])), (q1, .inl (cA, (2, .inl sf))), (q2, .inl (cA, (60, .inl l1_3))), (q3, .inl (cA, (320, .inl rf))), (q4, .inl (cA, (320, .inl nf))), (q5, .inl (cA, (6, .inl gf))), (o, .inl (cL, (1, .inr (.inl (vp_updL fo 0 (atL L1 (k + 1)).toInt64)))))] := hD
        refine lv_istore (lv' := [(6, .int (atL ((V2 L0 L1) 1) (k + 1))), (5, .int 0), (4, .int (nI i)), (3, .ref o), (2, .ref y0), (1, .ref x0), (0, .ref b)]) hx hb dL_law_527 hl (by decide) rfl (fun ls hl => ?_)
        refine lv_aload_n hx hb dL_law_529 rfl (lv_at hl 4 rfl) ?_
        refine g_RVi (As := []) (rest := []) ⟨hx, hb, hml, hown, hts⟩ (mt_X2_thrown l dC dI cA H.size y0 q1 q2 q3 q4 q5 rn 0 sf l1_3 mn rf nf ct il gf) (cwV 0 hts gL_law_X2_thrown rfl rfl rfl hdX2_thrown ⟨Nat.le_of_ble_eq_true rfl, Nat.le_of_ble_eq_true rfl⟩) hP hK hD [9, 10, 11, 12, 13, 14] (by decide) rfl (va_recv hK hP (ci := 2) (q0 := 9) rfl rfl) rfl hl.1 rfl (Nat.le_of_ble_eq_true rfl) dL_law_530 hc0 hs0 ?_
        refine lv_iload hx hb dL_law_533 (lv_at hl 1 rfl) ?_
        refine lv_icmp_eq (tgt := 540) hx hb dL_law_535 (by decide) (fun c535 => ?_) (fun c535 => ?_)
        · refine lv_iload hx hb dL_law_540 (lv_at hl 1 rfl) ?_
          refine lv_if_ne (tgt := 557) hx hb dL_law_542 (by decide) (fun c542 => ?_) (fun c542 => ?_)
          · exact absurd (by decide) c542
          · have c542 : 0 = 0 := g_neF 0 0 (by omega) (by omega) c542
            refine lv_aload_n hx hb dL_law_545 rfl (lv_at hl 3 rfl) ?_
            refine lv_iconst (v := 0) hx hb dL_law_546 (by decide) ?_
            refine va_lald hx hb hKl hP 15 1 rfl rfl (vp_in_nI (n := 0) (by omega) (by decide)) dL_law_547 ?_
            rw [show (0 : Int32).toNatClampNeg = 0 from by decide, pk_uLs]
            refine lv_iload hx hb dL_law_548 (lv_at hl 0 rfl) ?_
            refine lv_i2l (v := (atL ((V2 L0 L1) 1) (k + 1)).toInt64) hx hb dL_law_550 rfl ?_
            refine W.lcmp hx hb dL_law_551 ?_
            rw [show lg_cmp ((atL L1 (k + 1)).toInt64) ((atL ((V2 L0 L1) 1) (k + 1)).toInt64) = 0 from (lg_cmp_eq _ _).mpr rfl]
            refine lv_if_eq (tgt := 557) hx hb dL_law_552 (by decide) (fun c552 => ?_) (fun c552 => ?_)
            · have c552 : 0 = 0 := g_eqT 0 0 (by omega) (by omega) c552
              refine lv_goto (tgt := 1241) hx hb dL_law_557 (by decide) ?_
              exact kk rn L0 (((L1.set k (atL L1 (k + 1))).set (k + 1) (atL L1 k)).set (k + 2) (atL L1 (k + 1))) _ _ _ _ _ ⟨f0, f1_1, n2, f2, n3, f3, 0, sf, l1_3, mn, rf, nf, ct, il, gf, vp_updL fo 0 (atL L1 (k + 1)).toInt64, hP, hD, hS, hR0, hw_2, hl0, by rw [List.length_set, List.length_set, List.length_set]; exact hl1, hrn, hr6, hk0, okL_set (okL_set (okL_set hk1 (okL_at hk1 (by omega))) (okL_at hk1 (by omega))) (okL_at hk1 (by omega)), MW_c1 hw_4⟩ (by omega) (by omega) (lv_sub hl [2, 3, 4, 5, 6] rfl)
            · exact absurd (by decide) c552
        · exact absurd (by decide) c535
      · refine lv_aload_n hx hb dL_law_492 rfl (lv_at hl 3 rfl) ?_
        refine lv_aload_n hx hb dL_law_493 rfl (lv_at hl 4 rfl) ?_
        refine lv_iload hx hb dL_law_494 (lv_at hl 0 rfl) ?_
        refine lv_iconst (v := 1) hx hb dL_law_496 (by decide) ?_
        refine lv_iadd hx hb dL_law_497 ?_
        rw [show (nI i) + 1 = nI (i + 1) from nI_add i 1]
        refine va_sld hx hb hX hbl hbA hS (vp_in_nI (by omega) (by omega)) dL_law_498 ?_
        rw [show (nI (i + 1)).toNatClampNeg = i + 1 from nI_clamp (by omega)]
        rw [h1]
        refine lv_aload_n hx hb dL_law_499 rfl (lv_at hl 4 rfl) ?_
        refine lv_iload hx hb dL_law_500 (lv_at hl 0 rfl) ?_
        refine lv_iconst (v := 2) hx hb dL_law_502 (by decide) ?_
        refine lv_iadd hx hb dL_law_503 ?_
        rw [show (nI i) + 2 = nI (i + 2) from nI_add i 2]
        refine va_sld hx hb hX hbl hbA hS (vp_in_nI (by omega) (by omega)) dL_law_504 ?_
        rw [show (nI (i + 2)).toNatClampNeg = i + 2 from nI_clamp (by omega)]
        rw [h2]
        refine lv_aload_n hx hb dL_law_505 rfl (lv_at hl 1 rfl) ?_
        refine g_LS (As := [.ref x0, .int (nI 1), .int (nI k), .ref o]) (rest := []) ⟨hx, hb, hml, hown, hts⟩ (mt_L_about_2_1 l htr dC dI cA cL H.size x0 r0 r1 r2 r3 rn a1 L1 f1 k o fo hR1 (by omega) hno9) (vx_cwSW 4 hts gL_law_L_about rfl rfl rfl hdL_about ⟨Nat.le_of_ble_eq_true rfl, Nat.le_of_ble_eq_true rfl⟩) hP hKl hD hS hA hZ [0, 3, 4, 15] (by decide) rfl rfl hl.1 rfl (Nat.le_of_ble_eq_true rfl) dL_law_506 hc1 hs1 (fun u9 => [(x0, .inr (1, [.ref r0, .ref r1, .ref r2, .ref r3, .int (nI rn)])), (r0, .inr (0, [.ref a0, .int (nI L0.length)])), (a0, .inl (cA, (100, .inl f0))), (r1, .inr (0, [.ref a1, .int (nI L1.length)])), (a1, .inl (cA, (100, .inl f1))), (r2, .inr (0, [.ref a2, .int n2])), (a2, .inl (cA, (100, .inl f2))), (r3, .inr (0, [.ref a3, .int n3])), (a3, .inl (cA, (100, .inl f3))), (y0, .inr (2, [.int tv, .int (nI rn), .ref q1, .ref q2, .int mn, .ref q3, .ref q4, .int ct, .int il, .ref q5])), (q1, .inl (cA, (2, .inl sf))), (q2, .inl (cA, (60, .inl lf))), (q3, .inl (cA, (320, .inl rf))), (q4, .inl (cA, (320, .inl nf))), (q5, .inl (cA, (6, .inl gf))), (o, .inl (cL, (1, .inr (.inl fo))))]) (fun _ => rfl) (fun _ => rfl) (fun u H locs hw_1 hP hD hS => ?_)
        have hP : va_P (dC, dI) vwCl [(x0, .inr (1, [.ref r0, .ref r1, .ref r2, .ref r3, .int (nI rn)])), (r0, .inr (0, [.ref a0, .int (nI L0.length)])), (a0, .inl (cA, (100, .inl f0))), (r1, .inr (0, [.ref a1, .int (nI L1.length)])), (a1, .inl (cA, (100, .inl f1))), (r2, .inr (0, [.ref a2, .int n2])), (a2, .inl (cA, (100, .inl f2))), (r3, .inr (0, [.ref a3, .int n3])), (a3, .inl (cA, (100, .inl f3))), (y0, .inr (2, [.int tv, .int (nI rn), .ref q1, .ref q2, .int mn, .ref q3, .ref q4, .int ct, .int il, .ref q5])), (q1, .inl (cA, (2, .inl sf))), (q2, .inl (cA, (60, .inl lf))), (q3, .inl (cA, (320, .inl rf))), (q4, .inl (cA, (320, .inl nf))), (q5, .inl (cA, (6, .inl gf))), (o, .inl (cL, (1, .inr (.inl fo))))] H := hP
        have hD : va_D A [(x0, .inr (1, [.ref r0, .ref r1, .ref r2, .ref r3, .int (nI rn)])), (r0, .inr (0, [.ref a0, .int (nI L0.length)])), (a0, .inl (cA, (100, .inl f0))), (r1, .inr (0, [.ref a1, .int (nI L1.length)])), (a1, .inl (cA, (100, .inl f1))), (r2, .inr (0, [.ref a2, .int n2])), (a2, .inl (cA, (100, .inl f2))), (r3, .inr (0, [.ref a3, .int n3])), (a3, .inl (cA, (100, .inl f3))), (y0, .inr (2, [.int tv, .int (nI rn), .ref q1, .ref q2, .int mn, .ref q3, .ref q4, .int ct, .int il, .ref q5])), (q1, .inl (cA, (2, .inl sf))), (q2, .inl (cA, (60, .inl lf))), (q3, .inl (cA, (320, .inl rf))), (q4, .inl (cA, (320, .inl nf))), (q5, .inl (cA, (6, .inl gf))), (o, .inl (cL, (1, .inr (.inl fo))))] := hD
        refine lv_istore (lv' := [(5, .int 2), (4, .int (nI i)), (3, .ref o), (2, .ref y0), (1, .ref x0), (0, .ref b)]) hx hb dL_law_509 hl (by decide) rfl (fun ls hl => ?_)
        refine lv_aload_n hx hb dL_law_511 rfl (lv_at hl 3 rfl) ?_
        refine lv_aload_n hx hb dL_law_512 rfl (lv_at hl 5 rfl) ?_
        refine lv_iload hx hb dL_law_513 (lv_at hl 1 rfl) ?_
        refine lv_iconst (v := 1) hx hb dL_law_515 (by decide) ?_
        refine lv_iadd hx hb dL_law_516 ?_
        rw [show (nI i) + 1 = nI (i + 1) from nI_add i 1]
        refine va_sld hx hb hX hbl hbA hS (vp_in_nI (by omega) (by omega)) dL_law_517 ?_
        rw [show (nI (i + 1)).toNatClampNeg = i + 1 from nI_clamp (by omega)]
        rw [h1]
        refine lv_aload_n hx hb dL_law_518 rfl (lv_at hl 5 rfl) ?_
        refine lv_iload hx hb dL_law_519 (lv_at hl 1 rfl) ?_
        refine lv_iconst (v := 2) hx hb dL_law_521 (by decide) ?_
        refine lv_iadd hx hb dL_law_522 ?_
        rw [show (nI i) + 2 = nI (i + 2) from nI_add i 2]
        refine va_sld hx hb hX hbl hbA hS (vp_in_nI (by omega) (by omega)) dL_law_523 ?_
        rw [show (nI (i + 2)).toNatClampNeg = i + 2 from nI_clamp (by omega)]
        rw [h2]
        refine g_MVi (As := [.int (nI 1), .int (nI k)]) (rest := []) ⟨hx, hb, hml, hown, hts⟩ (mt_X2_about_2 l dC dI cA H.size y0 q1 q2 q3 q4 q5 rn tv sf lf mn rf nf ct il gf (V2 L0 L1) 1 k hW (by omega) hrn hk1 (show k + 2 < L1.length from by omega) hno9) (cwV 2 hts gL_law_X2_about rfl rfl rfl hdX2_about ⟨Nat.le_of_ble_eq_true rfl, Nat.le_of_ble_eq_true rfl⟩) hP hK hD hS hA [9, 10, 11, 12, 13, 14] (by decide) rfl (va_recv hK hP (ci := 2) (q0 := 9) rfl rfl) rfl hl.1 rfl (Nat.le_of_ble_eq_true rfl) dL_law_524 hc1 hs1 (fun u9 => [(x0, .inr (1, [.ref r0, .ref r1, .ref r2, .ref r3, .int (nI rn)])), (r0, .inr (0, [.ref a0, .int (nI L0.length)])), (a0, .inl (cA, (100, .inl f0))), (r1, .inr (0, [.ref a1, .int (nI L1.length)])), (a1, .inl (cA, (100, .inl f1))), (r2, .inr (0, [.ref a2, .int n2])), (a2, .inl (cA, (100, .inl f2))), (r3, .inr (0, [.ref a3, .int n3])), (a3, .inl (cA, (100, .inl f3))), (y0, .inr (2, [.int 2, .int (nI rn), .ref q1, .ref q2, .int mn, .ref q3, .ref q4, .int ct, .int il, .ref q5])), (q1, .inl (cA, (2, .inl sf))), (q2, .inl (cA, (60, .inl lf))), (q3, .inl (cA, (320, .inl rf))), (q4, .inl (cA, (320, .inl nf))), (q5, .inl (cA, (6, .inl gf))), (o, .inl (cL, (1, .inr (.inl fo))))]) (fun _ => rfl) (fun _ => rfl) (fun u H locs hw_2 hP hD hS => ?_)
        have hw_2 : True := hw_2
        have hP : va_P (dC, dI) vwCl [(x0, .inr (1, [.ref r0, .ref r1, .ref r2, .ref r3, .int (nI rn)])), (r0, .inr (0, [.ref a0, .int (nI L0.length)])), (a0, .inl (cA, (100, .inl f0))), (r1, .inr (0, [.ref a1, .int (nI L1.length)])), (a1, .inl (cA, (100, .inl f1))), (r2, .inr (0, [.ref a2, .int n2])), (a2, .inl (cA, (100, .inl f2))), (r3, .inr (0, [.ref a3, .int n3])), (a3, .inl (cA, (100, .inl f3))), (y0, .inr (2, [.int 2, .int (nI rn), .ref q1, .ref q2, .int mn, .ref q3, .ref q4, .int ct, .int il, .ref q5])), (q1, .inl (cA, (2, .inl sf))), (q2, .inl (cA, (60, .inl lf))), (q3, .inl (cA, (320, .inl rf))), (q4, .inl (cA, (320, .inl nf))), (q5, .inl (cA, (6, .inl gf))), (o, .inl (cL, (1, .inr (.inl fo))))] H := hP
        have hD : va_D A [(x0, .inr (1, [.ref r0, .ref r1, .ref r2, .ref r3, .int (nI rn)])), (r0, .inr (0, [.ref a0, .int (nI L0.length)])), (a0, .inl (cA, (100, .inl f0))), (r1, .inr (0, [.ref a1, .int (nI L1.length)])), (a1, .inl (cA, (100, .inl f1))), (r2, .inr (0, [.ref a2, .int n2])), (a2, .inl (cA, (100, .inl f2))), (r3, .inr (0, [.ref a3, .int n3])), (a3, .inl (cA, (100, .inl f3))), (y0, .inr (2, [.int 2, .int (nI rn), .ref q1, .ref q2, .int mn, .ref q3, .ref q4, .int ct, .int il, .ref q5])), (q1, .inl (cA, (2, .inl sf))), (q2, .inl (cA, (60, .inl lf))), (q3, .inl (cA, (320, .inl rf))), (q4, .inl (cA, (320, .inl nf))), (q5, .inl (cA, (6, .inl gf))), (o, .inl (cL, (1, .inr (.inl fo))))] := hD
        refine lv_istore (lv' := [(6, .int 0), (5, .int 2), (4, .int (nI i)), (3, .ref o), (2, .ref y0), (1, .ref x0), (0, .ref b)]) hx hb dL_law_527 hl (by decide) rfl (fun ls hl => ?_)
        refine lv_aload_n hx hb dL_law_529 rfl (lv_at hl 4 rfl) ?_
        refine g_RVi (As := []) (rest := []) ⟨hx, hb, hml, hown, hts⟩ (mt_X2_thrown l dC dI cA H.size y0 q1 q2 q3 q4 q5 rn 2 sf lf mn rf nf ct il gf) (cwV 0 hts gL_law_X2_thrown rfl rfl rfl hdX2_thrown ⟨Nat.le_of_ble_eq_true rfl, Nat.le_of_ble_eq_true rfl⟩) hP hK hD [9, 10, 11, 12, 13, 14] (by decide) rfl (va_recv hK hP (ci := 2) (q0 := 9) rfl rfl) rfl hl.1 rfl (Nat.le_of_ble_eq_true rfl) dL_law_530 hc1 hs1 ?_
        refine lv_iload hx hb dL_law_533 (lv_at hl 1 rfl) ?_
        refine lv_icmp_eq (tgt := 540) hx hb dL_law_535 (by decide) (fun c535 => ?_) (fun c535 => ?_)
        · refine lv_iload hx hb dL_law_540 (lv_at hl 1 rfl) ?_
          refine lv_if_ne (tgt := 557) hx hb dL_law_542 (by decide) (fun c542 => ?_) (fun c542 => ?_)
          · have c542 : ¬ 2 = 0 := g_neT 2 0 (by omega) (by omega) c542
            refine lv_goto (tgt := 1241) hx hb dL_law_557 (by decide) ?_
            exact kk rn L0 L1 _ _ _ _ _ ⟨f0, f1, n2, f2, n3, f3, 2, sf, lf, mn, rf, nf, ct, il, gf, fo, hP, hD, hS, hR0, hR1, hl0, hl1, hrn, hr6, hk0, hk1, hW⟩ (by omega) (by omega) (lv_sub hl [2, 3, 4, 5, 6] rfl)
          · exact absurd c542 (by decide)
        · exact absurd (by decide) c535
