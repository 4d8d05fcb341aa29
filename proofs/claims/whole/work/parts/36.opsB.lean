/-! 36: the law's steps, on -/
set_option maxHeartbeats 4000000 in
set_option maxRecDepth 100000 in
theorem lw_op_7 {p : Program} {l : Launch} {e : Env} {s : State} {m : MethodId} {below : List Frame} {meth : Method} {c : Code} {Q : State → Prop} {b L : Nat} {xs : Nat → Int32} {dC : Nat → ClassId} {dI : Nat → Nat → Nat} {cA cL : ClassId} {A : Nat → Prop} (E : lwE p l s m c b L xs dC dI cA cL A) {x0 r0 r1 r2 r3 a0 a1 a2 a3 y0 q1 q2 q3 q4 q5 o : Nat} {i : Nat} (hi : i + 4 ≤ L) {cells slots : Nat} (hC : cells + 1 ≤ 1053) (hS9 : slots + 6 ≤ 9402) {rn : Nat} {L0 L1 : List Int32} {H : Heap} {locs : List Loc} (hI : lwI dC dI cA cL A s.heap x0 r0 r1 r2 r3 a0 a1 a2 a3 y0 q1 q2 q3 q4 q5 o rn L0 L1 H locs) {ls : Array Slot} (hl : lv_has ls 9 [(4, .int (nI i)), (3, .ref o), (2, .ref y0), (1, .ref x0), (0, .ref b)])
    (kk : ∀ (rn : Nat) (L0 L1 : List Int32) (H : Heap) (locs : List Loc) (cells1 slots1 : Nat) (ls : Array Slot), lwI dC dI cA cL A s.heap x0 r0 r1 r2 r3 a0 a1 a2 a3 y0 q1 q2 q3 q4 q5 o rn L0 L1 H locs → cells1 ≤ cells + 1 → slots1 ≤ slots + 6 → lv_has ls 9 [(4, .int (nI i)), (3, .ref o), (2, .ref y0), (1, .ref x0), (0, .ref b)] → W p l e room_1 s m #[Value.ref b] below meth c H locs cells1 slots1 Q (F0 m 1241 ls [])) :
    W p l e room_1 s m #[Value.ref b] below meth c H locs cells slots Q (F0 m 560 ls []) := by
  obtain ⟨hx, hb, hml, hown, hts, hX, hbl, hbA, hA, htr, hKl, hZ, hL2⟩ := E
  obtain ⟨f0, f1, n2, f2, n3, f3, tv, sf, lf, mn, rf, nf, ct, il, gf, fo, hP, hD, hS, hR0, hR1, hl0, hl1, hrn, hr6, hk0, hk1, hW⟩ := hI
  have hK : va_K (dC, dI) vwCl [(cA, .int)] s := hKl.sub [0] rfl
  have hok := V2_ok hk0 hk1
  have hc0 : cells ≤ room_1.cells := (show cells ≤ 1053 from by omega)
  have hs0 : slots ≤ room_1.slots := (show slots ≤ 9402 from by omega)
  have hc1 : cells + 1 ≤ room_1.cells := hC
  have hs1 : slots + 6 ≤ room_1.slots := hS9
  rcases wd_ix (xs (i + 1)) with hbad | h1 | h1
  · refine lv_aload_n hx hb dL_law_560 rfl (lv_at hl 3 rfl) ?_
    refine lv_aload_n hx hb dL_law_561 rfl (lv_at hl 4 rfl) ?_
    refine lv_iload hx hb dL_law_562 (lv_at hl 0 rfl) ?_
    refine lv_iconst (v := 1) hx hb dL_law_564 (by decide) ?_
    refine lv_iadd hx hb dL_law_565 ?_
    rw [show (nI i) + 1 = nI (i + 1) from nI_add i 1]
    refine va_sld hx hb hX hbl hbA hS (vp_in_nI (by omega) (by omega)) dL_law_566 ?_
    rw [show (nI (i + 1)).toNatClampNeg = i + 1 from nI_clamp (by omega)]
    refine lv_aload_n hx hb dL_law_567 rfl (lv_at hl 4 rfl) ?_
    refine lv_iload hx hb dL_law_568 (lv_at hl 0 rfl) ?_
    refine lv_iconst (v := 2) hx hb dL_law_570 (by decide) ?_
    refine lv_iadd hx hb dL_law_571 ?_
    rw [show (nI i) + 2 = nI (i + 2) from nI_add i 2]
    refine va_sld hx hb hX hbl hbA hS (vp_in_nI (by omega) (by omega)) dL_law_572 ?_
    rw [show (nI (i + 2)).toNatClampNeg = i + 2 from nI_clamp (by omega)]
    refine lv_aload_n hx hb dL_law_573 rfl (lv_at hl 4 rfl) ?_
    refine lv_iload hx hb dL_law_574 (lv_at hl 0 rfl) ?_
    refine lv_iconst (v := 3) hx hb dL_law_576 (by decide) ?_
    refine lv_iadd hx hb dL_law_577 ?_
    rw [show (nI i) + 3 = nI (i + 3) from nI_add i 3]
    refine va_sld hx hb hX hbl hbA hS (vp_in_nI (by omega) (by omega)) dL_law_578 ?_
    rw [show (nI (i + 3)).toNatClampNeg = i + 3 from nI_clamp (by omega)]
    refine lv_aload_n hx hb dL_law_579 rfl (lv_at hl 1 rfl) ?_
    refine g_LS (As := [.ref x0, .int (xs (i + 1)), .int (xs (i + 2)), .int (xs (i + 3)), .ref o]) (rest := []) ⟨hx, hb, hml, hown, hts⟩ (mt_L_insert_1 l htr dC dI cA cL H.size x0 (xs (i + 1)) (xs (i + 2)) (xs (i + 3)) r0 r1 r2 r3 (nI rn) o fo hbad) (vx_cwSW 5 hts gL_law_L_insert rfl rfl rfl hdL_insert ⟨Nat.le_of_ble_eq_true rfl, Nat.le_of_ble_eq_true rfl⟩) hP hKl hD hS hA hZ [0, 15] (by decide) rfl rfl hl.1 rfl (Nat.le_of_ble_eq_true rfl) dL_law_580 hc1 hs1 (fun u9 => [(x0, .inr (1, [.ref r0, .ref r1, .ref r2, .ref r3, .int (nI rn)])), (r0, .inr (0, [.ref a0, .int (nI L0.length)])), (a0, .inl (cA, (100, .inl f0))), (r1, .inr (0, [.ref a1, .int (nI L1.length)])), (a1, .inl (cA, (100, .inl f1))), (r2, .inr (0, [.ref a2, .int n2])), (a2, .inl (cA, (100, .inl f2))), (r3, .inr (0, [.ref a3, .int n3])), (a3, .inl (cA, (100, .inl f3))), (y0, .inr (2, [.int tv, .int (nI rn), .ref q1, .ref q2, .int mn, .ref q3, .ref q4, .int ct, .int il, .ref q5])), (q1, .inl (cA, (2, .inl sf))), (q2, .inl (cA, (60, .inl lf))), (q3, .inl (cA, (320, .inl rf))), (q4, .inl (cA, (320, .inl nf))), (q5, .inl (cA, (6, .inl gf))), (o, .inl (cL, (1, .inr (.inl fo))))]) (fun _ => rfl) (fun _ => rfl) (fun u H locs hw_1 hP hD hS => ?_)
    have hP : va_P (dC, dI) vwCl [(x0, .inr (1, [.ref r0, .ref r1, .ref r2, .ref r3, .int (nI rn)])), (r0, .inr (0, [.ref a0, .int (nI L0.length)])), (a0, .inl (cA, (100, .inl f0))), (r1, .inr (0, [.ref a1, .int (nI L1.length)])), (a1, .inl (cA, (100, .inl f1))), (r2, .inr (0, [.ref a2, .int n2])), (a2, .inl (cA, (100, .inl f2))), (r3, .inr (0, [.ref a3, .int n3])), (a3, .inl (cA, (100, .inl f3))), (y0, .inr (2, [.int tv, .int (nI rn), .ref q1, .ref q2, .int mn, .ref q3, .ref q4, .int ct, .int il, .ref q5])), (q1, .inl (cA, (2, .inl sf))), (q2, .inl (cA, (60, .inl lf))), (q3, .inl (cA, (320, .inl rf))), (q4, .inl (cA, (320, .inl nf))), (q5, .inl (cA, (6, .inl gf))), (o, .inl (cL, (1, .inr (.inl fo))))] H := hP
    have hD : va_D A [(x0, .inr (1, [.ref r0, .ref r1, .ref r2, .ref r3, .int (nI rn)])), (r0, .inr (0, [.ref a0, .int (nI L0.length)])), (a0, .inl (cA, (100, .inl f0))), (r1, .inr (0, [.ref a1, .int (nI L1.length)])), (a1, .inl (cA, (100, .inl f1))), (r2, .inr (0, [.ref a2, .int n2])), (a2, .inl (cA, (100, .inl f2))), (r3, .inr (0, [.ref a3, .int n3])), (a3, .inl (cA, (100, .inl f3))), (y0, .inr (2, [.int tv, .int (nI rn), .ref q1, .ref q2, .int mn, .ref q3, .ref q4, .int ct, .int il, .ref q5])), (q1, .inl (cA, (2, .inl sf))), (q2, .inl (cA, (60, .inl lf))), (q3, .inl (cA, (320, .inl rf))), (q4, .inl (cA, (320, .inl nf))), (q5, .inl (cA, (6, .inl gf))), (o, .inl (cL, (1, .inr (.inl fo))))] := hD
    refine lv_istore (lv' := [(5, .int 1), (4, .int (nI i)), (3, .ref o), (2, .ref y0), (1, .ref x0), (0, .ref b)]) hx hb dL_law_583 hl (by decide) rfl (fun ls hl => ?_)
    refine lv_aload_n hx hb dL_law_585 rfl (lv_at hl 3 rfl) ?_
    refine lv_aload_n hx hb dL_law_586 rfl (lv_at hl 5 rfl) ?_
    refine lv_iload hx hb dL_law_587 (lv_at hl 1 rfl) ?_
    refine lv_iconst (v := 1) hx hb dL_law_589 (by decide) ?_
    refine lv_iadd hx hb dL_law_590 ?_
    rw [show (nI i) + 1 = nI (i + 1) from nI_add i 1]
    refine va_sld hx hb hX hbl hbA hS (vp_in_nI (by omega) (by omega)) dL_law_591 ?_
    rw [show (nI (i + 1)).toNatClampNeg = i + 1 from nI_clamp (by omega)]
    refine lv_aload_n hx hb dL_law_592 rfl (lv_at hl 5 rfl) ?_
    refine lv_iload hx hb dL_law_593 (lv_at hl 1 rfl) ?_
    refine lv_iconst (v := 2) hx hb dL_law_595 (by decide) ?_
    refine lv_iadd hx hb dL_law_596 ?_
    rw [show (nI i) + 2 = nI (i + 2) from nI_add i 2]
    refine va_sld hx hb hX hbl hbA hS (vp_in_nI (by omega) (by omega)) dL_law_597 ?_
    rw [show (nI (i + 2)).toNatClampNeg = i + 2 from nI_clamp (by omega)]
    refine lv_aload_n hx hb dL_law_598 rfl (lv_at hl 5 rfl) ?_
    refine lv_iload hx hb dL_law_599 (lv_at hl 1 rfl) ?_
    refine lv_iconst (v := 3) hx hb dL_law_601 (by decide) ?_
    refine lv_iadd hx hb dL_law_602 ?_
    rw [show (nI i) + 3 = nI (i + 3) from nI_add i 3]
    refine va_sld hx hb hX hbl hbA hS (vp_in_nI (by omega) (by omega)) dL_law_603 ?_
    rw [show (nI (i + 3)).toNatClampNeg = i + 3 from nI_clamp (by omega)]
    refine g_MVi (As := [.int (xs (i + 1)), .int (xs (i + 2)), .int (xs (i + 3))]) (rest := []) ⟨hx, hb, hml, hown, hts⟩ (mt_X2_insert_1 l dC dI cA H.size y0 q1 q2 q3 q4 q5 rn tv sf lf mn rf nf ct il gf (xs (i + 1)) (xs (i + 2)) (xs (i + 3)) hbad) (cwV 3 hts gL_law_X2_insert rfl rfl rfl hdX2_insert ⟨Nat.le_of_ble_eq_true rfl, Nat.le_of_ble_eq_true rfl⟩) hP hK hD hS hA [9, 10, 11, 12, 13, 14] (by decide) rfl (va_recv hK hP (ci := 2) (q0 := 9) rfl rfl) rfl hl.1 rfl (Nat.le_of_ble_eq_true rfl) dL_law_604 hc1 hs1 (fun u9 => [(x0, .inr (1, [.ref r0, .ref r1, .ref r2, .ref r3, .int (nI rn)])), (r0, .inr (0, [.ref a0, .int (nI L0.length)])), (a0, .inl (cA, (100, .inl f0))), (r1, .inr (0, [.ref a1, .int (nI L1.length)])), (a1, .inl (cA, (100, .inl f1))), (r2, .inr (0, [.ref a2, .int n2])), (a2, .inl (cA, (100, .inl f2))), (r3, .inr (0, [.ref a3, .int n3])), (a3, .inl (cA, (100, .inl f3))), (y0, .inr (2, [.int 1, .int (nI rn), .ref q1, .ref q2, .int mn, .ref q3, .ref q4, .int ct, .int il, .ref q5])), (q1, .inl (cA, (2, .inl sf))), (q2, .inl (cA, (60, .inl lf))), (q3, .inl (cA, (320, .inl rf))), (q4, .inl (cA, (320, .inl nf))), (q5, .inl (cA, (6, .inl gf))), (o, .inl (cL, (1, .inr (.inl fo))))]) (fun _ => rfl) (fun _ => rfl) (fun u H locs hw_2 hP hD hS => ?_)
    have hw_2 : True := hw_2
    have hP : va_P (dC, dI) vwCl [(x0, .inr (1, [.ref r0, .ref r1, .ref r2, .ref r3, .int (nI rn)])), (r0, .inr (0, [.ref a0, .int (nI L0.length)])), (a0, .inl (cA, (100, .inl f0))), (r1, .inr (0, [.ref a1, .int (nI L1.length)])), (a1, .inl (cA, (100, .inl f1))), (r2, .inr (0, [.ref a2, .int n2])), (a2, .inl (cA, (100, .inl f2))), (r3, .inr (0, [.ref a3, .int n3])), (a3, .inl (cA, (100, .inl f3))), (y0, .inr (2, [.int 1, .int (nI rn), .ref q1, .ref q2, .int mn, .ref q3, .ref q4, .int ct, .int il, .ref q5])), (q1, .inl (cA, (2, .inl sf))), (q2, .inl (cA, (60, .inl lf))), (q3, .inl (cA, (320, .inl rf))), (q4, .inl (cA, (320, .inl nf))), (q5, .inl (cA, (6, .inl gf))), (o, .inl (cL, (1, .inr (.inl fo))))] H := hP
    have hD : va_D A [(x0, .inr (1, [.ref r0, .ref r1, .ref r2, .ref r3, .int (nI rn)])), (r0, .inr (0, [.ref a0, .int (nI L0.length)])), (a0, .inl (cA, (100, .inl f0))), (r1, .inr (0, [.ref a1, .int (nI L1.length)])), (a1, .inl (cA, (100, .inl f1))), (r2, .inr (0, [.ref a2, .int n2])), (a2, .inl (cA, (100, .inl f2))), (r3, .inr (0, [.ref a3, .int n3])), (a3, .inl (cA, (100, .inl f3))), (y0, .inr (2, [.int 1, .int (nI rn), .ref q1, .ref q2, .int mn, .ref q3, .ref q4, .int ct, .int il, .ref q5])), (q1, .inl (cA, (2, .inl sf))), (q2, .inl (cA, (60, .inl lf))), (q3, .inl (cA, (320, .inl rf))), (q4, .inl (cA, (320, .inl nf))), (q5, .inl (cA, (6, .inl gf))), (o, .inl (cL, (1, .inr (.inl fo))))] := hD
    refine lv_istore (lv' := [(6, .int 0), (5, .int 1), (4, .int (nI i)), (3, .ref o), (2, .ref y0), (1, .ref x0), (0, .ref b)]) hx hb dL_law_607 hl (by decide) rfl (fun ls hl => ?_)
    refine lv_aload_n hx hb dL_law_609 rfl (lv_at hl 4 rfl) ?_
    refine g_RVi (As := []) (rest := []) ⟨hx, hb, hml, hown, hts⟩ (mt_X2_thrown l dC dI cA H.size y0 q1 q2 q3 q4 q5 rn 1 sf lf mn rf nf ct il gf) (cwV 0 hts gL_law_X2_thrown rfl rfl rfl hdX2_thrown ⟨Nat.le_of_ble_eq_true rfl, Nat.le_of_ble_eq_true rfl⟩) hP hK hD [9, 10, 11, 12, 13, 14] (by decide) rfl (va_recv hK hP (ci := 2) (q0 := 9) rfl rfl) rfl hl.1 rfl (Nat.le_of_ble_eq_true rfl) dL_law_610 hc1 hs1 ?_
    refine lv_iload hx hb dL_law_613 (lv_at hl 1 rfl) ?_
    refine lv_icmp_eq (tgt := 620) hx hb dL_law_615 (by decide) (fun c615 => ?_) (fun c615 => ?_)
    · refine lv_iload hx hb dL_law_620 (lv_at hl 1 rfl) ?_
      refine lv_if_ne (tgt := 637) hx hb dL_law_622 (by decide) (fun c622 => ?_) (fun c622 => ?_)
      · have c622 : ¬ 1 = 0 := g_neT 1 0 (by omega) (by omega) c622
        refine lv_goto (tgt := 1241) hx hb dL_law_637 (by decide) ?_
        exact kk rn L0 L1 _ _ _ _ _ ⟨f0, f1, n2, f2, n3, f3, 1, sf, lf, mn, rf, nf, ct, il, gf, fo, hP, hD, hS, hR0, hR1, hl0, hl1, hrn, hr6, hk0, hk1, hW⟩ (by omega) (by omega) (lv_sub hl [2, 3, 4, 5, 6] rfl)
      · exact absurd c622 (by decide)
    · exact absurd (by decide) c615
  · rcases pk_ix (xs (i + 2)) (n := L0.length + 1) (by omega) with hbad | hbad | ⟨k, hk9, h2⟩
    · refine lv_aload_n hx hb dL_law_560 rfl (lv_at hl 3 rfl) ?_
      refine lv_aload_n hx hb dL_law_561 rfl (lv_at hl 4 rfl) ?_
      refine lv_iload hx hb dL_law_562 (lv_at hl 0 rfl) ?_
      refine lv_iconst (v := 1) hx hb dL_law_564 (by decide) ?_
      refine lv_iadd hx hb dL_law_565 ?_
      rw [show (nI i) + 1 = nI (i + 1) from nI_add i 1]
      refine va_sld hx hb hX hbl hbA hS (vp_in_nI (by omega) (by omega)) dL_law_566 ?_
      rw [show (nI (i + 1)).toNatClampNeg = i + 1 from nI_clamp (by omega)]
      rw [h1]
      refine lv_aload_n hx hb dL_law_567 rfl (lv_at hl 4 rfl) ?_
      refine lv_iload hx hb dL_law_568 (lv_at hl 0 rfl) ?_
      refine lv_iconst (v := 2) hx hb dL_law_570 (by decide) ?_
      refine lv_iadd hx hb dL_law_571 ?_
      rw [show (nI i) + 2 = nI (i + 2) from nI_add i 2]
      refine va_sld hx hb hX hbl hbA hS (vp_in_nI (by omega) (by omega)) dL_law_572 ?_
      rw [show (nI (i + 2)).toNatClampNeg = i + 2 from nI_clamp (by omega)]
      refine lv_aload_n hx hb dL_law_573 rfl (lv_at hl 4 rfl) ?_
      refine lv_iload hx hb dL_law_574 (lv_at hl 0 rfl) ?_
      refine lv_iconst (v := 3) hx hb dL_law_576 (by decide) ?_
      refine lv_iadd hx hb dL_law_577 ?_
      rw [show (nI i) + 3 = nI (i + 3) from nI_add i 3]
      refine va_sld hx hb hX hbl hbA hS (vp_in_nI (by omega) (by omega)) dL_law_578 ?_
      rw [show (nI (i + 3)).toNatClampNeg = i + 3 from nI_clamp (by omega)]
      refine lv_aload_n hx hb dL_law_579 rfl (lv_at hl 1 rfl) ?_
      refine g_LS (As := [.ref x0, .int (nI 0), .int (xs (i + 2)), .int (xs (i + 3)), .ref o]) (rest := []) ⟨hx, hb, hml, hown, hts⟩ (mt_L_insert_1b_0 l htr dC dI cA cL H.size x0 r0 r1 r2 r3 rn a0 L0 f0 (xs (i + 2)) (xs (i + 3)) o fo hR0 (Or.inl hbad)) (vx_cwSW 5 hts gL_law_L_insert rfl rfl rfl hdL_insert ⟨Nat.le_of_ble_eq_true rfl, Nat.le_of_ble_eq_true rfl⟩) hP hKl hD hS hA hZ [0, 1, 2, 15] (by decide) rfl rfl hl.1 rfl (Nat.le_of_ble_eq_true rfl) dL_law_580 hc1 hs1 (fun u9 => [(x0, .inr (1, [.ref r0, .ref r1, .ref r2, .ref r3, .int (nI rn)])), (r0, .inr (0, [.ref a0, .int (nI L0.length)])), (a0, .inl (cA, (100, .inl f0))), (r1, .inr (0, [.ref a1, .int (nI L1.length)])), (a1, .inl (cA, (100, .inl f1))), (r2, .inr (0, [.ref a2, .int n2])), (a2, .inl (cA, (100, .inl f2))), (r3, .inr (0, [.ref a3, .int n3])), (a3, .inl (cA, (100, .inl f3))), (y0, .inr (2, [.int tv, .int (nI rn), .ref q1, .ref q2, .int mn, .ref q3, .ref q4, .int ct, .int il, .ref q5])), (q1, .inl (cA, (2, .inl sf))), (q2, .inl (cA, (60, .inl lf))), (q3, .inl (cA, (320, .inl rf))), (q4, .inl (cA, (320, .inl nf))), (q5, .inl (cA, (6, .inl gf))), (o, .inl (cL, (1, .inr (.inl fo))))]) (fun _ => rfl) (fun _ => rfl) (fun u H locs hw_1 hP hD hS => ?_)
      have hP : va_P (dC, dI) vwCl [(x0, .inr (1, [.ref r0, .ref r1, .ref r2, .ref r3, .int (nI rn)])), (r0, .inr (0, [.ref a0, .int (nI L0.length)])), (a0, .inl (cA, (100, .inl f0))), (r1, .inr (0, [.ref a1, .int (nI L1.length)])), (a1, .inl (cA, (100, .inl f1))), (r2, .inr (0, [.ref a2, .int n2])), (a2, .inl (cA, (100, .inl f2))), (r3, .inr (0, [.ref a3, .int n3])), (a3, .inl (cA, (100, .inl f3))), (y0, .inr (2, [.int tv, .int (nI rn), .ref q1, .ref q2, .int mn, .ref q3, .ref q4, .int ct, .int il, .ref q5])), (q1, .inl (cA, (2, .inl sf))), (q2, .inl (cA, (60, .inl lf))), (q3, .inl (cA, (320, .inl rf))), (q4, .inl (cA, (320, .inl nf))), (q5, .inl (cA, (6, .inl gf))), (o, .inl (cL, (1, .inr (.inl fo))))] H := hP
      have hD : va_D A [(x0, .inr (1, [.ref r0, .ref r1, .ref r2, .ref r3, .int (nI rn)])), (r0, .inr (0, [.ref a0, .int (nI L0.length)])), (a0, .inl (cA, (100, .inl f0))), (r1, .inr (0, [.ref a1, .int (nI L1.length)])), (a1, .inl (cA, (100, .inl f1))), (r2, .inr (0, [.ref a2, .int n2])), (a2, .inl (cA, (100, .inl f2))), (r3, .inr (0, [.ref a3, .int n3])), (a3, .inl (cA, (100, .inl f3))), (y0, .inr (2, [.int tv, .int (nI rn), .ref q1, .ref q2, .int mn, .ref q3, .ref q4, .int ct, .int il, .ref q5])), (q1, .inl (cA, (2, .inl sf))), (q2, .inl (cA, (60, .inl lf))), (q3, .inl (cA, (320, .inl rf))), (q4, .inl (cA, (320, .inl nf))), (q5, .inl (cA, (6, .inl gf))), (o, .inl (cL, (1, .inr (.inl fo))))] := hD
      refine lv_istore (lv' := [(5, .int 1), (4, .int (nI i)), (3, .ref o), (2, .ref y0), (1, .ref x0), (0, .ref b)]) hx hb dL_law_583 hl (by decide) rfl (fun ls hl => ?_)
      refine lv_aload_n hx hb dL_law_585 rfl (lv_at hl 3 rfl) ?_
      refine lv_aload_n hx hb dL_law_586 rfl (lv_at hl 5 rfl) ?_
      refine lv_iload hx hb dL_law_587 (lv_at hl 1 rfl) ?_
      refine lv_iconst (v := 1) hx hb dL_law_589 (by decide) ?_
      refine lv_iadd hx hb dL_law_590 ?_
      rw [show (nI i) + 1 = nI (i + 1) from nI_add i 1]
      refine va_sld hx hb hX hbl hbA hS (vp_in_nI (by omega) (by omega)) dL_law_591 ?_
      rw [show (nI (i + 1)).toNatClampNeg = i + 1 from nI_clamp (by omega)]
      rw [h1]
      refine lv_aload_n hx hb dL_law_592 rfl (lv_at hl 5 rfl) ?_
      refine lv_iload hx hb dL_law_593 (lv_at hl 1 rfl) ?_
      refine lv_iconst (v := 2) hx hb dL_law_595 (by decide) ?_
      refine lv_iadd hx hb dL_law_596 ?_
      rw [show (nI i) + 2 = nI (i + 2) from nI_add i 2]
      refine va_sld hx hb hX hbl hbA hS (vp_in_nI (by omega) (by omega)) dL_law_597 ?_
      rw [show (nI (i + 2)).toNatClampNeg = i + 2 from nI_clamp (by omega)]
      refine lv_aload_n hx hb dL_law_598 rfl (lv_at hl 5 rfl) ?_
      refine lv_iload hx hb dL_law_599 (lv_at hl 1 rfl) ?_
      refine lv_iconst (v := 3) hx hb dL_law_601 (by decide) ?_
      refine lv_iadd hx hb dL_law_602 ?_
      rw [show (nI i) + 3 = nI (i + 3) from nI_add i 3]
      refine va_sld hx hb hX hbl hbA hS (vp_in_nI (by omega) (by omega)) dL_law_603 ?_
      rw [show (nI (i + 3)).toNatClampNeg = i + 3 from nI_clamp (by omega)]
      refine g_MVi (As := [.int (nI 0), .int (xs (i + 2)), .int (xs (i + 3))]) (rest := []) ⟨hx, hb, hml, hown, hts⟩ (mt_X2_insert_1b l dC dI cA H.size y0 q1 q2 q3 q4 q5 rn tv sf lf mn rf nf ct il gf (V2 L0 L1) 0 (xs (i + 2)) (xs (i + 3)) hW (by omega) (Or.inl hbad)) (cwV 3 hts gL_law_X2_insert rfl rfl rfl hdX2_insert ⟨Nat.le_of_ble_eq_true rfl, Nat.le_of_ble_eq_true rfl⟩) hP hK hD hS hA [9, 10, 11, 12, 13, 14] (by decide) rfl (va_recv hK hP (ci := 2) (q0 := 9) rfl rfl) rfl hl.1 rfl (Nat.le_of_ble_eq_true rfl) dL_law_604 hc1 hs1 (fun u9 => [(x0, .inr (1, [.ref r0, .ref r1, .ref r2, .ref r3, .int (nI rn)])), (r0, .inr (0, [.ref a0, .int (nI L0.length)])), (a0, .inl (cA, (100, .inl f0))), (r1, .inr (0, [.ref a1, .int (nI L1.length)])), (a1, .inl (cA, (100, .inl f1))), (r2, .inr (0, [.ref a2, .int n2])), (a2, .inl (cA, (100, .inl f2))), (r3, .inr (0, [.ref a3, .int n3])), (a3, .inl (cA, (100, .inl f3))), (y0, .inr (2, [.int 1, .int (nI rn), .ref q1, .ref q2, .int mn, .ref q3, .ref q4, .int ct, .int il, .ref q5])), (q1, .inl (cA, (2, .inl sf))), (q2, .inl (cA, (60, .inl lf))), (q3, .inl (cA, (320, .inl rf))), (q4, .inl (cA, (320, .inl nf))), (q5, .inl (cA, (6, .inl gf))), (o, .inl (cL, (1, .inr (.inl fo))))]) (fun _ => rfl) (fun _ => rfl) (fun u H locs hw_2 hP hD hS => ?_)
      have hw_2 : True := hw_2
      have hP : va_P (dC, dI) vwCl [(x0, .inr (1, [.ref r0, .ref r1, .ref r2, .ref r3, .int (nI rn)])), (r0, .inr (0, [.ref a0, .int (nI L0.length)])), (a0, .inl (cA, (100, .inl f0))), (r1, .inr (0, [.ref a1, .int (nI L1.length)])), (a1, .inl (cA, (100, .inl f1))), (r2, .inr (0, [.ref a2, .int n2])), (a2, .inl (cA, (100, .inl f2))), (r3, .inr (0, [.ref a3, .int n3])), (a3, .inl (cA, (100, .inl f3))), (y0, .inr (2, [.int 1, .int (nI rn), .ref q1, .ref q2, .int mn, .ref q3, .ref q4, .int ct, .int il, .ref q5])), (q1, .inl (cA, (2, .inl sf))), (q2, .inl (cA, (60, .inl lf))), (q3, .inl (cA, (320, .inl rf))), (q4, .inl (cA, (320, .inl nf))), (q5, .inl (cA, (6, .inl gf))), (o, .inl (cL, (1, .inr (.inl fo))))] H := hP
      have hD : va_D A [(x0, .inr (1, [.ref r0, .ref r1, .ref r2, .ref r3, .int (nI rn)])), (r0, .inr (0, [.ref a0, .int (nI L0.length)])), (a0, .inl (cA, (100, .inl f0))), (r1, .inr (0, [.ref a1, .int (nI L1.length)])), (a1, .inl (cA, (100, .inl f1))), (r2, .inr (0, [.ref a2, .int n2])), (a2, .inl (cA, (100, .inl f2))), (r3, .inr (0, [.ref a3, .int n3])), (a3, .inl (cA, (100, .inl f3))), (y0, .inr (2, [.int 1, .int (nI rn), .ref q1, .ref q2, .int mn, .ref q3, .ref q4, .int ct, .int il, .ref q5])), (q1, .inl (cA, (2, .inl sf))), (q2, .inl (cA, (60, .inl lf))), (q3, .inl (cA, (320, .inl rf))), (q4, .inl (cA, (320, .inl nf))), (q5, .inl (cA, (6, .inl gf))), (o, .inl (cL, (1, .inr (.inl fo))))] := hD
      refine lv_istore (lv' := [(6, .int 0), (5, .int 1), (4, .int (nI i)), (3, .ref o), (2, .ref y0), (1, .ref x0), (0, .ref b)]) hx hb dL_law_607 hl (by decide) rfl (fun ls hl => ?_)
      refine lv_aload_n hx hb dL_law_609 rfl (lv_at hl 4 rfl) ?_
      refine g_RVi (As := []) (rest := []) ⟨hx, hb, hml, hown, hts⟩ (mt_X2_thrown l dC dI cA H.size y0 q1 q2 q3 q4 q5 rn 1 sf lf mn rf nf ct il gf) (cwV 0 hts gL_law_X2_thrown rfl rfl rfl hdX2_thrown ⟨Nat.le_of_ble_eq_true rfl, Nat.le_of_ble_eq_true rfl⟩) hP hK hD [9, 10, 11, 12, 13, 14] (by decide) rfl (va_recv hK hP (ci := 2) (q0 := 9) rfl rfl) rfl hl.1 rfl (Nat.le_of_ble_eq_true rfl) dL_law_610 hc1 hs1 ?_
      refine lv_iload hx hb dL_law_613 (lv_at hl 1 rfl) ?_
      refine lv_icmp_eq (tgt := 620) hx hb dL_law_615 (by decide) (fun c615 => ?_) (fun c615 => ?_)
      · refine lv_iload hx hb dL_law_620 (lv_at hl 1 rfl) ?_
        refine lv_if_ne (tgt := 637) hx hb dL_law_622 (by decide) (fun c622 => ?_) (fun c622 => ?_)
        · have c622 : ¬ 1 = 0 := g_neT 1 0 (by omega) (by omega) c622
          refine lv_goto (tgt := 1241) hx hb dL_law_637 (by decide) ?_
          exact kk rn L0 L1 _ _ _ _ _ ⟨f0, f1, n2, f2, n3, f3, 1, sf, lf, mn, rf, nf, ct, il, gf, fo, hP, hD, hS, hR0, hR1, hl0, hl1, hrn, hr6, hk0, hk1, hW⟩ (by omega) (by omega) (lv_sub hl [2, 3, 4, 5, 6] rfl)
        · exact absurd c622 (by decide)
      · exact absurd (by decide) c615
    · refine lv_aload_n hx hb dL_law_560 rfl (lv_at hl 3 rfl) ?_
      refine lv_aload_n hx hb dL_law_561 rfl (lv_at hl 4 rfl) ?_
      refine lv_iload hx hb dL_law_562 (lv_at hl 0 rfl) ?_
      refine lv_iconst (v := 1) hx hb dL_law_564 (by decide) ?_
      refine lv_iadd hx hb dL_law_565 ?_
      rw [show (nI i) + 1 = nI (i + 1) from nI_add i 1]
      refine va_sld hx hb hX hbl hbA hS (vp_in_nI (by omega) (by omega)) dL_law_566 ?_
      rw [show (nI (i + 1)).toNatClampNeg = i + 1 from nI_clamp (by omega)]
      rw [h1]
      refine lv_aload_n hx hb dL_law_567 rfl (lv_at hl 4 rfl) ?_
      refine lv_iload hx hb dL_law_568 (lv_at hl 0 rfl) ?_
      refine lv_iconst (v := 2) hx hb dL_law_570 (by decide) ?_
      refine lv_iadd hx hb dL_law_571 ?_
      rw [show (nI i) + 2 = nI (i + 2) from nI_add i 2]
      refine va_sld hx hb hX hbl hbA hS (vp_in_nI (by omega) (by omega)) dL_law_572 ?_
      rw [show (nI (i + 2)).toNatClampNeg = i + 2 from nI_clamp (by omega)]
      refine lv_aload_n hx hb dL_law_573 rfl (lv_at hl 4 rfl) ?_
      refine lv_iload hx hb dL_law_574 (lv_at hl 0 rfl) ?_
      refine lv_iconst (v := 3) hx hb dL_law_576 (by decide) ?_
      refine lv_iadd hx hb dL_law_577 ?_
      rw [show (nI i) + 3 = nI (i + 3) from nI_add i 3]
      refine va_sld hx hb hX hbl hbA hS (vp_in_nI (by omega) (by omega)) dL_law_578 ?_
      rw [show (nI (i + 3)).toNatClampNeg = i + 3 from nI_clamp (by omega)]
      refine lv_aload_n hx hb dL_law_579 rfl (lv_at hl 1 rfl) ?_
      refine g_LS (As := [.ref x0, .int (nI 0), .int (xs (i + 2)), .int (xs (i + 3)), .ref o]) (rest := []) ⟨hx, hb, hml, hown, hts⟩ (mt_L_insert_1b_0 l htr dC dI cA cL H.size x0 r0 r1 r2 r3 rn a0 L0 f0 (xs (i + 2)) (xs (i + 3)) o fo hR0 (Or.inr hbad)) (vx_cwSW 5 hts gL_law_L_insert rfl rfl rfl hdL_insert ⟨Nat.le_of_ble_eq_true rfl, Nat.le_of_ble_eq_true rfl⟩) hP hKl hD hS hA hZ [0, 1, 2, 15] (by decide) rfl rfl hl.1 rfl (Nat.le_of_ble_eq_true rfl) dL_law_580 hc1 hs1 (fun u9 => [(x0, .inr (1, [.ref r0, .ref r1, .ref r2, .ref r3, .int (nI rn)])), (r0, .inr (0, [.ref a0, .int (nI L0.length)])), (a0, .inl (cA, (100, .inl f0))), (r1, .inr (0, [.ref a1, .int (nI L1.length)])), (a1, .inl (cA, (100, .inl f1))), (r2, .inr (0, [.ref a2, .int n2])), (a2, .inl (cA, (100, .inl f2))), (r3, .inr (0, [.ref a3, .int n3])), (a3, .inl (cA, (100, .inl f3))), (y0, .inr (2, [.int tv, .int (nI rn), .ref q1, .ref q2, .int mn, .ref q3, .ref q4, .int ct, .int il, .ref q5])), (q1, .inl (cA, (2, .inl sf))), (q2, .inl (cA, (60, .inl lf))), (q3, .inl (cA, (320, .inl rf))), (q4, .inl (cA, (320, .inl nf))), (q5, .inl (cA, (6, .inl gf))), (o, .inl (cL, (1, .inr (.inl fo))))]) (fun _ => rfl) (fun _ => rfl) (fun u H locs hw_1 hP hD hS => ?_)
      have hP : va_P (dC, dI) vwCl [(x0, .inr (1, [.ref r0, .ref r1, .ref r2, .ref r3, .int (nI rn)])), (r0, .inr (0, [.ref a0, .int (nI L0.length)])), (a0, .inl (cA, (100, .inl f0))), (r1, .inr (0, [.ref a1, .int (nI L1.length)])), (a1, .inl (cA, (100, .inl f1))), (r2, .inr (0, [.ref a2, .int n2])), (a2, .inl (cA, (100, .inl f2))), (r3, .inr (0, [.ref a3, .int n3])), (a3, .inl (cA, (100, .inl f3))), (y0, .inr (2, [.int tv, .int (nI rn), .ref q1, .ref q2, .int mn, .ref q3, .ref q4, .int ct, .int il, .ref q5])), (q1, .inl (cA, (2, .inl sf))), (q2, .inl (cA, (60, .inl lf))), (q3, .inl (cA, (320, .inl rf))), (q4, .inl (cA, (320, .inl nf))), (q5, .inl (cA, (6, .inl gf))), (o, .inl (cL, (1, .inr (.inl fo))))] H := hP
      have hD : va_D A [(x0, .inr (1, [.ref r0, .ref r1, .ref r2, .ref r3, .int (nI rn)])), (r0, .inr (0, [.ref a0, .int (nI L0.length)])), (a0, .inl (cA, (100, .inl f0))), (r1, .inr (0, [.ref a1, .int (nI L1.length)])), (a1, .inl (cA, (100, .inl f1))), (r2, .inr (0, [.ref a2, .int n2])), (a2, .inl (cA, (100, .inl f2))), (r3, .inr (0, [.ref a3, .int n3])), (a3, .inl (cA, (100, .inl f3))), (y0, .inr (2, [.int tv, .int (nI rn), .ref q1, .ref q2, .int mn, .ref q3, .ref q4, .int ct, .int il, .ref q5])), (q1, .inl (cA, (2, .inl sf))), (q2, .inl (cA, (60, .inl lf))), (q3, .inl (cA, (320, .inl rf))), (q4, .inl (cA, (320, .inl nf))), (q5, .inl (cA, (6, .inl gf))), (o, .inl (cL, (1, .inr (.inl fo))))] := hD
      refine lv_istore (lv' := [(5, .int 1), (4, .int (nI i)), (3, .ref o), (2, .ref y0), (1, .ref x0), (0, .ref b)]) hx hb dL_law_583 hl (by decide) rfl (fun ls hl => ?_)
      refine lv_aload_n hx hb dL_law_585 rfl (lv_at hl 3 rfl) ?_
      refine lv_aload_n hx hb dL_law_586 rfl (lv_at hl 5 rfl) ?_
      refine lv_iload hx hb dL_law_587 (lv_at hl 1 rfl) ?_
      refine lv_iconst (v := 1) hx hb dL_law_589 (by decide) ?_
      refine lv_iadd hx hb dL_law_590 ?_
      rw [show (nI i) + 1 = nI (i + 1) from nI_add i 1]
      refine va_sld hx hb hX hbl hbA hS (vp_in_nI (by omega) (by omega)) dL_law_591 ?_
      rw [show (nI (i + 1)).toNatClampNeg = i + 1 from nI_clamp (by omega)]
      rw [h1]
      refine lv_aload_n hx hb dL_law_592 rfl (lv_at hl 5 rfl) ?_
      refine lv_iload hx hb dL_law_593 (lv_at hl 1 rfl) ?_
      refine lv_iconst (v := 2) hx hb dL_law_595 (by decide) ?_
      refine lv_iadd hx hb dL_law_596 ?_
      rw [show (nI i) + 2 = nI (i + 2) from nI_add i 2]
      refine va_sld hx hb hX hbl hbA hS (vp_in_nI (by omega) (by omega)) dL_law_597 ?_
      rw [show (nI (i + 2)).toNatClampNeg = i + 2 from nI_clamp (by omega)]
      refine lv_aload_n hx hb dL_law_598 rfl (lv_at hl 5 rfl) ?_
      refine lv_iload hx hb dL_law_599 (lv_at hl 1 rfl) ?_
      refine lv_iconst (v := 3) hx hb dL_law_601 (by decide) ?_
      refine lv_iadd hx hb dL_law_602 ?_
      rw [show (nI i) + 3 = nI (i + 3) from nI_add i 3]
      refine va_sld hx hb hX hbl hbA hS (vp_in_nI (by omega) (by omega)) dL_law_603 ?_
      rw [show (nI (i + 3)).toNatClampNeg = i + 3 from nI_clamp (by omega)]
      refine g_MVi (As := [.int (nI 0), .int (xs (i + 2)), .int (xs (i + 3))]) (rest := []) ⟨hx, hb, hml, hown, hts⟩ (mt_X2_insert_1b l dC dI cA H.size y0 q1 q2 q3 q4 q5 rn tv sf lf mn rf nf ct il gf (V2 L0 L1) 0 (xs (i + 2)) (xs (i + 3)) hW (by omega) (Or.inr hbad)) (cwV 3 hts gL_law_X2_insert rfl rfl rfl hdX2_insert ⟨Nat.le_of_ble_eq_true rfl, Nat.le_of_ble_eq_true rfl⟩) hP hK hD hS hA [9, 10, 11, 12, 13, 14] (by decide) rfl (va_recv hK hP (ci := 2) (q0 := 9) rfl rfl) rfl hl.1 rfl (Nat.le_of_ble_eq_true rfl) dL_law_604 hc1 hs1 (fun u9 => [(x0, .inr (1, [.ref r0, .ref r1, .ref r2, .ref r3, .int (nI rn)])), (r0, .inr (0, [.ref a0, .int (nI L0.length)])), (a0, .inl (cA, (100, .inl f0))), (r1, .inr (0, [.ref a1, .int (nI L1.length)])), (a1, .inl (cA, (100, .inl f1))), (r2, .inr (0, [.ref a2, .int n2])), (a2, .inl (cA, (100, .inl f2))), (r3, .inr (0, [.ref a3, .int n3])), (a3, .inl (cA, (100, .inl f3))), (y0, .inr (2, [.int 1, .int (nI rn), .ref q1, .ref q2, .int mn, .ref q3, .ref q4, .int ct, .int il, .ref q5])), (q1, .inl (cA, (2, .inl sf))), (q2, .inl (cA, (60, .inl lf))), (q3, .inl (cA, (320, .inl rf))), (q4, .inl (cA, (320, .inl nf))), (q5, .inl (cA, (6, .inl gf))), (o, .inl (cL, (1, .inr (.inl fo))))]) (fun _ => rfl) (fun _ => rfl) (fun u H locs hw_2 hP hD hS => ?_)
      have hw_2 : True := hw_2
      have hP : va_P (dC, dI) vwCl [(x0, .inr (1, [.ref r0, .ref r1, .ref r2, .ref r3, .int (nI rn)])), (r0, .inr (0, [.ref a0, .int (nI L0.length)])), (a0, .inl (cA, (100, .inl f0))), (r1, .inr (0, [.ref a1, .int (nI L1.length)])), (a1, .inl (cA, (100, .inl f1))), (r2, .inr (0, [.ref a2, .int n2])), (a2, .inl (cA, (100, .inl f2))), (r3, .inr (0, [.ref a3, .int n3])), (a3, .inl (cA, (100, .inl f3))), (y0, .inr (2, [.int 1, .int (nI rn), .ref q1, .ref q2, .int mn, .ref q3, .ref q4, .int ct, .int il, .ref q5])), (q1, .inl (cA, (2, .inl sf))), (q2, .inl (cA, (60, .inl lf))), (q3, .inl (cA, (320, .inl rf))), (q4, .inl (cA, (320, .inl nf))), (q5, .inl (cA, (6, .inl gf))), (o, .inl (cL, (1, .inr (.inl fo))))] H := hP
      have hD : va_D A [(x0, .inr (1, [.ref r0, .ref r1, .ref r2, .ref r3, .int (nI rn)])), (r0, .inr (0, [.ref a0, .int (nI L0.length)])), (a0, .inl (cA, (100, .inl f0))), (r1, .inr (0, [.ref a1, .int (nI L1.length)])), (a1, .inl (cA, (100, .inl f1))), (r2, .inr (0, [.ref a2, .int n2])), (a2, .inl (cA, (100, .inl f2))), (r3, .inr (0, [.ref a3, .int n3])), (a3, .inl (cA, (100, .inl f3))), (y0, .inr (2, [.int 1, .int (nI rn), .ref q1, .ref q2, .int mn, .ref q3, .ref q4, .int ct, .int il, .ref q5])), (q1, .inl (cA, (2, .inl sf))), (q2, .inl (cA, (60, .inl lf))), (q3, .inl (cA, (320, .inl rf))), (q4, .inl (cA, (320, .inl nf))), (q5, .inl (cA, (6, .inl gf))), (o, .inl (cL, (1, .inr (.inl fo))))] := hD
      refine lv_istore (lv' := [(6, .int 0), (5, .int 1), (4, .int (nI i)), (3, .ref o), (2, .ref y0), (1, .ref x0), (0, .ref b)]) hx hb dL_law_607 hl (by decide) rfl (fun ls hl => ?_)
      refine lv_aload_n hx hb dL_law_609 rfl (lv_at hl 4 rfl) ?_
      refine g_RVi (As := []) (rest := []) ⟨hx, hb, hml, hown, hts⟩ (mt_X2_thrown l dC dI cA H.size y0 q1 q2 q3 q4 q5 rn 1 sf lf mn rf nf ct il gf) (cwV 0 hts gL_law_X2_thrown rfl rfl rfl hdX2_thrown ⟨Nat.le_of_ble_eq_true rfl, Nat.le_of_ble_eq_true rfl⟩) hP hK hD [9, 10, 11, 12, 13, 14] (by decide) rfl (va_recv hK hP (ci := 2) (q0 := 9) rfl rfl) rfl hl.1 rfl (Nat.le_of_ble_eq_true rfl) dL_law_610 hc1 hs1 ?_
      refine lv_iload hx hb dL_law_613 (lv_at hl 1 rfl) ?_
      refine lv_icmp_eq (tgt := 620) hx hb dL_law_615 (by decide) (fun c615 => ?_) (fun c615 => ?_)
      · refine lv_iload hx hb dL_law_620 (lv_at hl 1 rfl) ?_
        refine lv_if_ne (tgt := 637) hx hb dL_law_622 (by decide) (fun c622 => ?_) (fun c622 => ?_)
        · have c622 : ¬ 1 = 0 := g_neT 1 0 (by omega) (by omega) c622
          refine lv_goto (tgt := 1241) hx hb dL_law_637 (by decide) ?_
          exact kk rn L0 L1 _ _ _ _ _ ⟨f0, f1, n2, f2, n3, f3, 1, sf, lf, mn, rf, nf, ct, il, gf, fo, hP, hD, hS, hR0, hR1, hl0, hl1, hrn, hr6, hk0, hk1, hW⟩ (by omega) (by omega) (lv_sub hl [2, 3, 4, 5, 6] rfl)
        · exact absurd c622 (by decide)
      · exact absurd (by decide) c615
    · rcases lt_ix rn (xs (i + 3)) with hbad | ⟨h0, hh1, hh2⟩
      · refine lv_aload_n hx hb dL_law_560 rfl (lv_at hl 3 rfl) ?_
        refine lv_aload_n hx hb dL_law_561 rfl (lv_at hl 4 rfl) ?_
        refine lv_iload hx hb dL_law_562 (lv_at hl 0 rfl) ?_
        refine lv_iconst (v := 1) hx hb dL_law_564 (by decide) ?_
        refine lv_iadd hx hb dL_law_565 ?_
        rw [show (nI i) + 1 = nI (i + 1) from nI_add i 1]
        refine va_sld hx hb hX hbl hbA hS (vp_in_nI (by omega) (by omega)) dL_law_566 ?_
        rw [show (nI (i + 1)).toNatClampNeg = i + 1 from nI_clamp (by omega)]
        rw [h1]
        refine lv_aload_n hx hb dL_law_567 rfl (lv_at hl 4 rfl) ?_
        refine lv_iload hx hb dL_law_568 (lv_at hl 0 rfl) ?_
        refine lv_iconst (v := 2) hx hb dL_law_570 (by decide) ?_
        refine lv_iadd hx hb dL_law_571 ?_
        rw [show (nI i) + 2 = nI (i + 2) from nI_add i 2]
        refine va_sld hx hb hX hbl hbA hS (vp_in_nI (by omega) (by omega)) dL_law_572 ?_
        rw [show (nI (i + 2)).toNatClampNeg = i + 2 from nI_clamp (by omega)]
        rw [h2]
        refine lv_aload_n hx hb dL_law_573 rfl (lv_at hl 4 rfl) ?_
        refine lv_iload hx hb dL_law_574 (lv_at hl 0 rfl) ?_
        refine lv_iconst (v := 3) hx hb dL_law_576 (by decide) ?_
        refine lv_iadd hx hb dL_law_577 ?_
        rw [show (nI i) + 3 = nI (i + 3) from nI_add i 3]
        refine va_sld hx hb hX hbl hbA hS (vp_in_nI (by omega) (by omega)) dL_law_578 ?_
        rw [show (nI (i + 3)).toNatClampNeg = i + 3 from nI_clamp (by omega)]
        refine lv_aload_n hx hb dL_law_579 rfl (lv_at hl 1 rfl) ?_
        refine g_LS (As := [.ref x0, .int (nI 0), .int (nI k), .int (xs (i + 3)), .ref o]) (rest := []) ⟨hx, hb, hml, hown, hts⟩ (mt_L_insert_2_0 l htr dC dI cA cL H.size x0 r0 r1 r2 r3 rn a0 L0 f0 k (xs (i + 3)) o fo hR0 (show k ≤ L0.length from by omega) hbad) (vx_cwSW 5 hts gL_law_L_insert rfl rfl rfl hdL_insert ⟨Nat.le_of_ble_eq_true rfl, Nat.le_of_ble_eq_true rfl⟩) hP hKl hD hS hA hZ [0, 1, 2, 15] (by decide) rfl rfl hl.1 rfl (Nat.le_of_ble_eq_true rfl) dL_law_580 hc1 hs1 (fun u9 => [(x0, .inr (1, [.ref r0, .ref r1, .ref r2, .ref r3, .int (nI rn)])), (r0, .inr (0, [.ref a0, .int (nI L0.length)])), (a0, .inl (cA, (100, .inl f0))), (r1, .inr (0, [.ref a1, .int (nI L1.length)])), (a1, .inl (cA, (100, .inl f1))), (r2, .inr (0, [.ref a2, .int n2])), (a2, .inl (cA, (100, .inl f2))), (r3, .inr (0, [.ref a3, .int n3])), (a3, .inl (cA, (100, .inl f3))), (y0, .inr (2, [.int tv, .int (nI rn), .ref q1, .ref q2, .int mn, .ref q3, .ref q4, .int ct, .int il, .ref q5])), (q1, .inl (cA, (2, .inl sf))), (q2, .inl (cA, (60, .inl lf))), (q3, .inl (cA, (320, .inl rf))), (q4, .inl (cA, (320, .inl nf))), (q5, .inl (cA, (6, .inl gf))), (o, .inl (cL, (1, .inr (.inl fo))))]) (fun _ => rfl) (fun _ => rfl) (fun u H locs hw_1 hP hD hS => ?_)
        have hP : va_P (dC, dI) vwCl [(x0, .inr (1, [.ref r0, .ref r1, .ref r2, .ref r3, .int (nI rn)])), (r0, .inr (0, [.ref a0, .int (nI L0.length)])), (a0, .inl (cA, (100, .inl f0))), (r1, .inr (0, [.ref a1, .int (nI L1.length)])), (a1, .inl (cA, (100, .inl f1))), (r2, .inr (0, [.ref a2, .int n2])), (a2, .inl (cA, (100, .inl f2))), (r3, .inr (0, [.ref a3, .int n3])), (a3, .inl (cA, (100, .inl f3))), (y0, .inr (2, [.int tv, .int (nI rn), .ref q1, .ref q2, .int mn, .ref q3, .ref q4, .int ct, .int il, .ref q5])), (q1, .inl (cA, (2, .inl sf))), (q2, .inl (cA, (60, .inl lf))), (q3, .inl (cA, (320, .inl rf))), (q4, .inl (cA, (320, .inl nf))), (q5, .inl (cA, (6, .inl gf))), (o, .inl (cL, (1, .inr (.inl fo))))] H := hP
        have hD : va_D A [(x0, .inr (1, [.ref r0, .ref r1, .ref r2, .ref r3, .int (nI rn)])), (r0, .inr (0, [.ref a0, .int (nI L0.length)])), (a0, .inl (cA, (100, .inl f0))), (r1, .inr (0, [.ref a1, .int (nI L1.length)])), (a1, .inl (cA, (100, .inl f1))), (r2, .inr (0, [.ref a2, .int n2])), (a2, .inl (cA, (100, .inl f2))), (r3, .inr (0, [.ref a3, .int n3])), (a3, .inl (cA, (100, .inl f3))), (y0, .inr (2, [.int tv, .int (nI rn), .ref q1, .ref q2, .int mn, .ref q3, .ref q4, .int ct, .int il, .ref q5])), (q1, .inl (cA, (2, .inl sf))), (q2, .inl (cA, (60, .inl lf))), (q3, .inl (cA, (320, .inl rf))), (q4, .inl (cA, (320, .inl nf))), (q5, .inl (cA, (6, .inl gf))), (o, .inl (cL, (1, .inr (.inl fo))))] := hD
        refine lv_istore (lv' := [(5, .int 2), (4, .int (nI i)), (3, .ref o), (2, .ref y0), (1, .ref x0), (0, .ref b)]) hx hb dL_law_583 hl (by decide) rfl (fun ls hl => ?_)
        refine lv_aload_n hx hb dL_law_585 rfl (lv_at hl 3 rfl) ?_
        refine lv_aload_n hx hb dL_law_586 rfl (lv_at hl 5 rfl) ?_
        refine lv_iload hx hb dL_law_587 (lv_at hl 1 rfl) ?_
        refine lv_iconst (v := 1) hx hb dL_law_589 (by decide) ?_
        refine lv_iadd hx hb dL_law_590 ?_
        rw [show (nI i) + 1 = nI (i + 1) from nI_add i 1]
        refine va_sld hx hb hX hbl hbA hS (vp_in_nI (by omega) (by omega)) dL_law_591 ?_
        rw [show (nI (i + 1)).toNatClampNeg = i + 1 from nI_clamp (by omega)]
        rw [h1]
        refine lv_aload_n hx hb dL_law_592 rfl (lv_at hl 5 rfl) ?_
        refine lv_iload hx hb dL_law_593 (lv_at hl 1 rfl) ?_
        refine lv_iconst (v := 2) hx hb dL_law_595 (by decide) ?_
        refine lv_iadd hx hb dL_law_596 ?_
        rw [show (nI i) + 2 = nI (i + 2) from nI_add i 2]
        refine va_sld hx hb hX hbl hbA hS (vp_in_nI (by omega) (by omega)) dL_law_597 ?_
        rw [show (nI (i + 2)).toNatClampNeg = i + 2 from nI_clamp (by omega)]
        rw [h2]
        refine lv_aload_n hx hb dL_law_598 rfl (lv_at hl 5 rfl) ?_
        refine lv_iload hx hb dL_law_599 (lv_at hl 1 rfl) ?_
        refine lv_iconst (v := 3) hx hb dL_law_601 (by decide) ?_
        refine lv_iadd hx hb dL_law_602 ?_
        rw [show (nI i) + 3 = nI (i + 3) from nI_add i 3]
        refine va_sld hx hb hX hbl hbA hS (vp_in_nI (by omega) (by omega)) dL_law_603 ?_
        rw [show (nI (i + 3)).toNatClampNeg = i + 3 from nI_clamp (by omega)]
        refine g_MVi (As := [.int (nI 0), .int (nI k), .int (xs (i + 3))]) (rest := []) ⟨hx, hb, hml, hown, hts⟩ (mt_X2_insert_2 l dC dI cA H.size y0 q1 q2 q3 q4 q5 rn tv sf lf mn rf nf ct il gf (V2 L0 L1) 0 k (xs (i + 3)) hW (by omega) hrn hbad (show k ≤ L0.length from by omega)) (cwV 3 hts gL_law_X2_insert rfl rfl rfl hdX2_insert ⟨Nat.le_of_ble_eq_true rfl, Nat.le_of_ble_eq_true rfl⟩) hP hK hD hS hA [9, 10, 11, 12, 13, 14] (by decide) rfl (va_recv hK hP (ci := 2) (q0 := 9) rfl rfl) rfl hl.1 rfl (Nat.le_of_ble_eq_true rfl) dL_law_604 hc1 hs1 (fun u9 => [(x0, .inr (1, [.ref r0, .ref r1, .ref r2, .ref r3, .int (nI rn)])), (r0, .inr (0, [.ref a0, .int (nI L0.length)])), (a0, .inl (cA, (100, .inl f0))), (r1, .inr (0, [.ref a1, .int (nI L1.length)])), (a1, .inl (cA, (100, .inl f1))), (r2, .inr (0, [.ref a2, .int n2])), (a2, .inl (cA, (100, .inl f2))), (r3, .inr (0, [.ref a3, .int n3])), (a3, .inl (cA, (100, .inl f3))), (y0, .inr (2, [.int 2, .int (nI rn), .ref q1, .ref q2, .int mn, .ref q3, .ref q4, .int ct, .int il, .ref q5])), (q1, .inl (cA, (2, .inl sf))), (q2, .inl (cA, (60, .inl lf))), (q3, .inl (cA, (320, .inl rf))), (q4, .inl (cA, (320, .inl nf))), (q5, .inl (cA, (6, .inl gf))), (o, .inl (cL, (1, .inr (.inl fo))))]) (fun _ => rfl) (fun _ => rfl) (fun u H locs hw_2 hP hD hS => ?_)
        have hw_2 : True := hw_2
        have hP : va_P (dC, dI) vwCl [(x0, .inr (1, [.ref r0, .ref r1, .ref r2, .ref r3, .int (nI rn)])), (r0, .inr (0, [.ref a0, .int (nI L0.length)])), (a0, .inl (cA, (100, .inl f0))), (r1, .inr (0, [.ref a1, .int (nI L1.length)])), (a1, .inl (cA, (100, .inl f1))), (r2, .inr (0, [.ref a2, .int n2])), (a2, .inl (cA, (100, .inl f2))), (r3, .inr (0, [.ref a3, .int n3])), (a3, .inl (cA, (100, .inl f3))), (y0, .inr (2, [.int 2, .int (nI rn), .ref q1, .ref q2, .int mn, .ref q3, .ref q4, .int ct, .int il, .ref q5])), (q1, .inl (cA, (2, .inl sf))), (q2, .inl (cA, (60, .inl lf))), (q3, .inl (cA, (320, .inl rf))), (q4, .inl (cA, (320, .inl nf))), (q5, .inl (cA, (6, .inl gf))), (o, .inl (cL, (1, .inr (.inl fo))))] H := hP
        have hD : va_D A [(x0, .inr (1, [.ref r0, .ref r1, .ref r2, .ref r3, .int (nI rn)])), (r0, .inr (0, [.ref a0, .int (nI L0.length)])), (a0, .inl (cA, (100, .inl f0))), (r1, .inr (0, [.ref a1, .int (nI L1.length)])), (a1, .inl (cA, (100, .inl f1))), (r2, .inr (0, [.ref a2, .int n2])), (a2, .inl (cA, (100, .inl f2))), (r3, .inr (0, [.ref a3, .int n3])), (a3, .inl (cA, (100, .inl f3))), (y0, .inr (2, [.int 2, .int (nI rn), .ref q1, .ref q2, .int mn, .ref q3, .ref q4, .int ct, .int il, .ref q5])), (q1, .inl (cA, (2, .inl sf))), (q2, .inl (cA, (60, .inl lf))), (q3, .inl (cA, (320, .inl rf))), (q4, .inl (cA, (320, .inl nf))), (q5, .inl (cA, (6, .inl gf))), (o, .inl (cL, (1, .inr (.inl fo))))] := hD
        refine lv_istore (lv' := [(6, .int 0), (5, .int 2), (4, .int (nI i)), (3, .ref o), (2, .ref y0), (1, .ref x0), (0, .ref b)]) hx hb dL_law_607 hl (by decide) rfl (fun ls hl => ?_)
        refine lv_aload_n hx hb dL_law_609 rfl (lv_at hl 4 rfl) ?_
        refine g_RVi (As := []) (rest := []) ⟨hx, hb, hml, hown, hts⟩ (mt_X2_thrown l dC dI cA H.size y0 q1 q2 q3 q4 q5 rn 2 sf lf mn rf nf ct il gf) (cwV 0 hts gL_law_X2_thrown rfl rfl rfl hdX2_thrown ⟨Nat.le_of_ble_eq_true rfl, Nat.le_of_ble_eq_true rfl⟩) hP hK hD [9, 10, 11, 12, 13, 14] (by decide) rfl (va_recv hK hP (ci := 2) (q0 := 9) rfl rfl) rfl hl.1 rfl (Nat.le_of_ble_eq_true rfl) dL_law_610 hc1 hs1 ?_
        refine lv_iload hx hb dL_law_613 (lv_at hl 1 rfl) ?_
        refine lv_icmp_eq (tgt := 620) hx hb dL_law_615 (by decide) (fun c615 => ?_) (fun c615 => ?_)
        · refine lv_iload hx hb dL_law_620 (lv_at hl 1 rfl) ?_
          refine lv_if_ne (tgt := 637) hx hb dL_law_622 (by decide) (fun c622 => ?_) (fun c622 => ?_)
          · have c622 : ¬ 2 = 0 := g_neT 2 0 (by omega) (by omega) c622
            refine lv_goto (tgt := 1241) hx hb dL_law_637 (by decide) ?_
            exact kk rn L0 L1 _ _ _ _ _ ⟨f0, f1, n2, f2, n3, f3, 2, sf, lf, mn, rf, nf, ct, il, gf, fo, hP, hD, hS, hR0, hR1, hl0, hl1, hrn, hr6, hk0, hk1, hW⟩ (by omega) (by omega) (lv_sub hl [2, 3, 4, 5, 6] rfl)
          · exact absurd c622 (by decide)
        · exact absurd (by decide) c615
      · by_cases hk2 : L0.length + 2 ≤ 30
        · refine lv_aload_n hx hb dL_law_560 rfl (lv_at hl 3 rfl) ?_
          refine lv_aload_n hx hb dL_law_561 rfl (lv_at hl 4 rfl) ?_
          refine lv_iload hx hb dL_law_562 (lv_at hl 0 rfl) ?_
          refine lv_iconst (v := 1) hx hb dL_law_564 (by decide) ?_
          refine lv_iadd hx hb dL_law_565 ?_
          rw [show (nI i) + 1 = nI (i + 1) from nI_add i 1]
          refine va_sld hx hb hX hbl hbA hS (vp_in_nI (by omega) (by omega)) dL_law_566 ?_
          rw [show (nI (i + 1)).toNatClampNeg = i + 1 from nI_clamp (by omega)]
          rw [h1]
          refine lv_aload_n hx hb dL_law_567 rfl (lv_at hl 4 rfl) ?_
          refine lv_iload hx hb dL_law_568 (lv_at hl 0 rfl) ?_
          refine lv_iconst (v := 2) hx hb dL_law_570 (by decide) ?_
          refine lv_iadd hx hb dL_law_571 ?_
          rw [show (nI i) + 2 = nI (i + 2) from nI_add i 2]
          refine va_sld hx hb hX hbl hbA hS (vp_in_nI (by omega) (by omega)) dL_law_572 ?_
          rw [show (nI (i + 2)).toNatClampNeg = i + 2 from nI_clamp (by omega)]
          rw [h2]
          refine lv_aload_n hx hb dL_law_573 rfl (lv_at hl 4 rfl) ?_
          refine lv_iload hx hb dL_law_574 (lv_at hl 0 rfl) ?_
          refine lv_iconst (v := 3) hx hb dL_law_576 (by decide) ?_
          refine lv_iadd hx hb dL_law_577 ?_
          rw [show (nI i) + 3 = nI (i + 3) from nI_add i 3]
          refine va_sld hx hb hX hbl hbA hS (vp_in_nI (by omega) (by omega)) dL_law_578 ?_
          rw [show (nI (i + 3)).toNatClampNeg = i + 3 from nI_clamp (by omega)]
          refine lv_aload_n hx hb dL_law_579 rfl (lv_at hl 1 rfl) ?_
          refine g_LS (As := [.ref x0, .int (nI 0), .int (nI k), .int (xs (i + 3)), .ref o]) (rest := []) ⟨hx, hb, hml, hown, hts⟩ (mt_L_insert0 l htr dC dI cA cL H.size x0 r0 r1 r2 r3 rn a0 L0 f0 k (xs (i + 3)) o fo hR0 (show k ≤ L0.length from by omega) h0 hh1 hh2 hk2) (vx_cwSW 5 hts gL_law_L_insert rfl rfl rfl hdL_insert ⟨Nat.le_of_ble_eq_true rfl, Nat.le_of_ble_eq_true rfl⟩) hP hKl hD hS hA hZ [0, 1, 2, 15] (by decide) rfl rfl hl.1 rfl (Nat.le_of_ble_eq_true rfl) dL_law_580 hc0 hs0 (fun u9 => [(x0, .inr (1, [.ref r0, .ref r1, .ref r2, .ref r3, .int (nI rn)])), (r0, .inr (0, [.ref a0, .int (nI ((insL (insL L0 k (-(xs (i + 3)))) k (xs (i + 3))).length))])), (a0, .inl (cA, (100, .inl u9))), (r1, .inr (0, [.ref a1, .int (nI L1.length)])), (a1, .inl (cA, (100, .inl f1))), (r2, .inr (0, [.ref a2, .int n2])), (a2, .inl (cA, (100, .inl f2))), (r3, .inr (0, [.ref a3, .int n3])), (a3, .inl (cA, (100, .inl f3))), (y0, .inr (2, [.int tv, .int (nI rn), .ref q1, .ref q2, .int mn, .ref q3, .ref q4, .int ct, .int il, .ref q5])), (q1, .inl (cA, (2, .inl sf))), (q2, .inl (cA, (60, .inl lf))), (q3, .inl (cA, (320, .inl rf))), (q4, .inl (cA, (320, .inl nf))), (q5, .inl (cA, (6, .inl gf))), (o, .inl (cL, (1, .inr (.inl (vp_updL fo 0 (nI ((insL (insL L0 k (-(xs (i + 3)))) k (xs (i + 3))).length)).toInt64)))))]) (fun _ => rfl) (fun _ => rfl) (fun u H locs hw_2 hP hD hS => ?_)
          obtain ⟨f1_1, rfl⟩ : ∃ z, z = u := ⟨_, rfl⟩
          have hw_2 : RI (insL (insL L0 k (-(xs (i + 3)))) k (xs (i + 3))) f1_1 := hw_2
          have hP : va_P (dC, dI) vwCl [(x0, .inr (1, [.ref r0, .ref r1, .ref r2, .ref r3, .int (nI rn)])), (r0, .inr (0, [.ref a0, .int (nI ((insL (insL L0 k (-(xs (i + 3)))) k (xs (i + 3))).length))])), (a0, .inl (cA, (100, .inl f1_1))), (r1, .inr (0, [.ref a1, .int (nI L1.length)])), (a1, .inl (cA, (100, .inl f1))), (r2, .inr (0, [.ref a2, .int n2])), (a2, .inl (cA, (100, .inl f2))), (r3, .inr (0, [.ref a3, .int n3])), (a3, .inl (cA, (100, .inl f3))), (y0, .inr (2, [.int tv, .int (nI rn), .ref q1, .ref q2, .int mn, .ref q3, .ref q4, .int ct, .int il, .ref q5])), (q1, .inl (cA, (2, .inl sf))), (q2, .inl (cA, (60, .inl lf))), (q3, .inl (cA, (320, .inl rf))), (q4, .inl (cA, (320, .inl nf))), (q5, .inl (cA, (6, .inl gf))), (o, .inl (cL, (1, .inr (.inl (vp_updL fo 0 (nI ((insL (insL L0 k (-(xs (i + 3)))) k (xs (i + 3))).length)).toInt64)))))] H := hP
          have hD : va_D A [(x0, .inr (1, [.ref r0, .ref r1, .ref r2, .ref r3, .int (nI rn)])), (r0, .inr (0, [.ref a0, .int (nI ((insL (insL L0 k (-(xs (i + 3)))) k (xs (i + 3))).length))])), (a0, .inl (cA, (100, .inl f1_1))), (r1, .inr (0, [.ref a1, .int (nI L1.length)])), (a1, .inl (cA, (100, .inl f1))), (r2, .inr (0, [.ref a2, .int n2])), (a2, .inl (cA, (100, .inl f2))), (r3, .inr (0, [.ref a3, .int n3])), (a3, .inl (cA, (100, .inl f3))), (y0, .inr (2, [.int tv, .int (nI rn), .ref q1, .ref q2, .int mn, .ref q3, .ref q4, .int ct, .int il, .ref q5])), (q1, .inl (cA, (2, .inl sf))), (q2, .inl (cA, (60, .inl lf))), (q3, .inl (cA, (320, .inl rf))), (q4, .inl (cA, (320, .inl nf))), (q5, .inl (cA, (6, .inl gf))), (o, .inl (cL, (1, .inr (.inl (vp_updL fo 0 (nI ((insL (insL L0 k (-(xs (i + 3)))) k (xs (i + 3))).length)).toInt64)))))] := hD
          refine lv_istore (lv' := [(5, .int 0), (4, .int (nI i)), (3, .ref o), (2, .ref y0), (1, .ref x0), (0, .ref b)]) hx hb dL_law_583 hl (by decide) rfl (fun ls hl => ?_)
          refine lv_aload_n hx hb dL_law_585 rfl (lv_at hl 3 rfl) ?_
          refine lv_aload_n hx hb dL_law_586 rfl (lv_at hl 5 rfl) ?_
          refine lv_iload hx hb dL_law_587 (lv_at hl 1 rfl) ?_
          refine lv_iconst (v := 1) hx hb dL_law_589 (by decide) ?_
          refine lv_iadd hx hb dL_law_590 ?_
          rw [show (nI i) + 1 = nI (i + 1) from nI_add i 1]
          refine va_sld hx hb hX hbl hbA hS (vp_in_nI (by omega) (by omega)) dL_law_591 ?_
          rw [show (nI (i + 1)).toNatClampNeg = i + 1 from nI_clamp (by omega)]
          rw [h1]
          refine lv_aload_n hx hb dL_law_592 rfl (lv_at hl 5 rfl) ?_
          refine lv_iload hx hb dL_law_593 (lv_at hl 1 rfl) ?_
          refine lv_iconst (v := 2) hx hb dL_law_595 (by decide) ?_
          refine lv_iadd hx hb dL_law_596 ?_
          rw [show (nI i) + 2 = nI (i + 2) from nI_add i 2]
          refine va_sld hx hb hX hbl hbA hS (vp_in_nI (by omega) (by omega)) dL_law_597 ?_
          rw [show (nI (i + 2)).toNatClampNeg = i + 2 from nI_clamp (by omega)]
          rw [h2]
          refine lv_aload_n hx hb dL_law_598 rfl (lv_at hl 5 rfl) ?_
          refine lv_iload hx hb dL_law_599 (lv_at hl 1 rfl) ?_
          refine lv_iconst (v := 3) hx hb dL_law_601 (by decide) ?_
          refine lv_iadd hx hb dL_law_602 ?_
          rw [show (nI i) + 3 = nI (i + 3) from nI_add i 3]
          refine va_sld hx hb hX hbl hbA hS (vp_in_nI (by omega) (by omega)) dL_law_603 ?_
          rw [show (nI (i + 3)).toNatClampNeg = i + 3 from nI_clamp (by omega)]
          refine g_MVi (As := [.int (nI 0), .int (nI k), .int (xs (i + 3))]) (rest := []) ⟨hx, hb, hml, hown, hts⟩ (mt_X2_insert l dC dI cA H.size y0 q1 q2 q3 q4 q5 rn tv sf lf mn rf nf ct il gf (V2 L0 L1) 0 k (xs (i + 3)) hW (by omega) hrn h0 hh1 hh2 (show k ≤ L0.length from by omega) hk2) (cwV 3 hts gL_law_X2_insert rfl rfl rfl hdX2_insert ⟨Nat.le_of_ble_eq_true rfl, Nat.le_of_ble_eq_true rfl⟩) hP hK hD hS hA [9, 10, 11, 12, 13, 14] (by decide) rfl (va_recv hK hP (ci := 2) (q0 := 9) rfl rfl) rfl hl.1 rfl (Nat.le_of_ble_eq_true rfl) dL_law_604 hc0 hs0 (fun u9 => [(x0, .inr (1, [.ref r0, .ref r1, .ref r2, .ref r3, .int (nI rn)])), (r0, .inr (0, [.ref a0, .int (nI ((insL (insL L0 k (-(xs (i + 3)))) k (xs (i + 3))).length))])), (a0, .inl (cA, (100, .inl f1_1))), (r1, .inr (0, [.ref a1, .int (nI L1.length)])), (a1, .inl (cA, (100, .inl f1))), (r2, .inr (0, [.ref a2, .int n2])), (a2, .inl (cA, (100, .inl f2))), (r3, .inr (0, [.ref a3, .int n3])), (a3, .inl (cA, (100, .inl f3))), (y0, .inr (2, [.int 0, .int (nI rn), .ref q1, .ref q2, .int mn, .ref q3, .ref q4, .int ct, .int il, .ref q5])), (q1, .inl (cA, (2, .inl u9.1))), (q2, .inl (cA, (60, .inl u9.2))), (q3, .inl (cA, (320, .inl rf))), (q4, .inl (cA, (320, .inl nf))), (q5, .inl (cA, (6, .inl gf))), (o, .inl (cL, (1, .inr (.inl (vp_updL fo 0 (nI ((insL (insL L0 k (-(xs (i + 3)))) k (xs (i + 3))).length)).toInt64)))))]) (fun _ => rfl) (fun _ => rfl) (fun u H locs hw_5 hP hD hS => ?_)
          obtain ⟨s1_3, l1_4⟩ := u
          have hw_5 : MW (upW (V2 L0 L1) 0 (insL (insL ((V2 L0 L1) 0) k (-(xs (i + 3)))) k (xs (i + 3)))) s1_3 l1_4 := hw_5
          have hP : va_P (dC, dI) vwCl [(x0, .inr (1, [.ref r0, .ref r1, .ref r2, .ref r3, .int (nI rn)])), (r0, .inr (0, [.ref a0, .int (nI ((insL (insL L0 k (-(xs (i + 3)))) k (xs (i + 3))).length))])), (a0, .inl (cA, (100, .inl f1_1))), (r1, .inr (0, [.ref a1, .int (nI L1.length)])), (a1, .inl (cA, (100, .inl f1))), (r2, .inr (0, [.ref a2, .int n2])), (a2, .inl (cA, (100, .inl f2))), (r3, .inr (0, [.ref a3, .int n3])), (a3, .inl (cA, (100, .inl f3))), (y0, .inr (2, [.int 0, .int (nI rn), .ref q1, .ref q2, .int mn, .ref q3, .ref q4, .int ct, .int il, .ref q5])), (q1, .inl (cA, (2, .inl s1_3))), (q2, .inl (cA, (60, .inl l1_4))), (q3, .inl (cA, (320, .inl rf))), (q4, .inl (cA, (320, .inl nf))), (q5, .inl (cA, (6, .inl gf))), (o, .inl (cL, (1, .inr (.inl (vp_updL fo 0 (nI ((insL (insL L0 k (-(xs (i + 3)))) k (xs (i + 3))).length)).toInt64)))))] H := hP
          have hD : va_D A [(x0, .inr (1, [.ref r0, .ref r1, .ref r2, .ref r3, .int (nI rn)])), (r0, .inr (0, [.ref a0, .int (nI ((insL (insL L0 k (-(xs (i + 3)))) k (xs (i + 3))).length))])), (a0, .inl (cA, (100, .inl f1_1))), (r1, .inr (0, [.ref a1, .int (nI L1.length)])), (a1, .inl (cA, (100, .inl f1))), (r2, .inr (0, [.ref a2, .int n2])), (a2, .inl (cA, (100, .inl f2))), (r3, .inr (0, [.ref a3, .int n3])), (a3, .inl (cA, (100, .inl f3))), (y0, .inr (2, [.int 0, .int (nI rn), .ref q1, .ref q2, .int mn, .ref q3, .ref q4, .int ct, .int il, .ref q5])), (q1, .inl (cA, (2, .inl s1_3))), (q2, .inl (cA, (60, .inl l1_4))), (q3, .inl (cA, (320, .inl rf))), (q4, .inl (cA, (320, .inl nf))), (q5, .inl (cA, (6, .inl gf))), (o, .inl (cL, (1, .inr (.inl (vp_updL fo 0 (nI ((insL (insL L0 k (-(xs (i + 3)))) k (xs (i + 3))).length)).toInt64)))))] := hD
          refine lv_istore (lv' := [(6, .int (nI (((V2 L0 L1) 0).length + 2))), (5, .int 0), (4, .int (nI i)), (3, .ref o), (2, .ref y0), (1, .ref x0), (0, .ref b)]) hx hb dL_law_607 hl (by decide) rfl (fun ls hl => ?_)
          refine lv_aload_n hx hb dL_law_609 rfl (lv_at hl 4 rfl) ?_
          refine g_RVi (As := []) (rest := []) ⟨hx, hb, hml, hown, hts⟩ (mt_X2_thrown l dC dI cA H.size y0 q1 q2 q3 q4 q5 rn 0 s1_3 l1_4 mn rf nf ct il gf) (cwV 0 hts gL_law_X2_thrown rfl rfl rfl hdX2_thrown ⟨Nat.le_of_ble_eq_true rfl, Nat.le_of_ble_eq_true rfl⟩) hP hK hD [9, 10, 11, 12, 13, 14] (by decide) rfl (va_recv hK hP (ci := 2) (q0 := 9) rfl rfl) rfl hl.1 rfl (Nat.le_of_ble_eq_true rfl) dL_law_610 hc0 hs0 ?_
          refine lv_iload hx hb dL_law_613 (lv_at hl 1 rfl) ?_
          refine lv_icmp_eq (tgt := 620) hx hb dL_law_615 (by decide) (fun c615 => ?_) (fun c615 => ?_)
          · refine lv_iload hx hb dL_law_620 (lv_at hl 1 rfl) ?_
            refine lv_if_ne (tgt := 637) hx hb dL_law_622 (by decide) (fun c622 => ?_) (fun c622 => ?_)
            · exact absurd (by decide) c622
            · have c622 : 0 = 0 := g_neF 0 0 (by omega) (by omega) c622
              refine lv_aload_n hx hb dL_law_625 rfl (lv_at hl 3 rfl) ?_
              refine lv_iconst (v := 0) hx hb dL_law_626 (by decide) ?_
              refine va_lald hx hb hKl hP 15 1 rfl rfl (vp_in_nI (n := 0) (by omega) (by decide)) dL_law_627 ?_
              rw [show (0 : Int32).toNatClampNeg = 0 from by decide, pk_uLs]
              refine lv_iload hx hb dL_law_628 (lv_at hl 0 rfl) ?_
              refine lv_i2l (v := (nI (((V2 L0 L1) 0).length + 2)).toInt64) hx hb dL_law_630 rfl ?_
              refine W.lcmp hx hb dL_law_631 ?_
              rw [show lg_cmp ((nI ((insL (insL L0 k (-(xs (i + 3)))) k (xs (i + 3))).length)).toInt64) ((nI (((V2 L0 L1) 0).length + 2)).toInt64) = 0 from (lg_cmp_eq _ _).mpr (by rw [insL_len (by rw [insL_len (show k ≤ L0.length by omega)]; omega), insL_len (show k ≤ L0.length by omega)]; rfl)]
              refine lv_if_eq (tgt := 637) hx hb dL_law_632 (by decide) (fun c632 => ?_) (fun c632 => ?_)
              · have c632 : 0 = 0 := g_eqT 0 0 (by omega) (by omega) c632
                refine lv_goto (tgt := 1241) hx hb dL_law_637 (by decide) ?_
                exact kk rn (insL (insL L0 k (-xs (i + 3))) k (xs (i + 3))) L1 _ _ _ _ _ ⟨f1_1, f1, n2, f2, n3, f3, 0, s1_3, l1_4, mn, rf, nf, ct, il, gf, vp_updL fo 0 (nI ((insL (insL L0 k (-(xs (i + 3)))) k (xs (i + 3))).length)).toInt64, hP, hD, hS, hw_2, hR1, by rw [insL_len (by rw [insL_len (show k ≤ L0.length by omega)]; omega), insL_len (show k ≤ L0.length by omega)]; omega, hl1, hrn, hr6, okL_ins (okL_ins hk0 (ok_neg rn hrn _ (let_ok hrn h0 hh1 hh2)).1) (let_ok hrn h0 hh1 hh2), hk1, MW_c0 hw_5⟩ (by omega) (by omega) (lv_sub hl [2, 3, 4, 5, 6] rfl)
              · exact absurd (by decide) c632
          · exact absurd (by decide) c615
        · refine lv_aload_n hx hb dL_law_560 rfl (lv_at hl 3 rfl) ?_
          refine lv_aload_n hx hb dL_law_561 rfl (lv_at hl 4 rfl) ?_
          refine lv_iload hx hb dL_law_562 (lv_at hl 0 rfl) ?_
          refine lv_iconst (v := 1) hx hb dL_law_564 (by decide) ?_
          refine lv_iadd hx hb dL_law_565 ?_
          rw [show (nI i) + 1 = nI (i + 1) from nI_add i 1]
          refine va_sld hx hb hX hbl hbA hS (vp_in_nI (by omega) (by omega)) dL_law_566 ?_
          rw [show (nI (i + 1)).toNatClampNeg = i + 1 from nI_clamp (by omega)]
          rw [h1]
          refine lv_aload_n hx hb dL_law_567 rfl (lv_at hl 4 rfl) ?_
          refine lv_iload hx hb dL_law_568 (lv_at hl 0 rfl) ?_
          refine lv_iconst (v := 2) hx hb dL_law_570 (by decide) ?_
          refine lv_iadd hx hb dL_law_571 ?_
          rw [show (nI i) + 2 = nI (i + 2) from nI_add i 2]
          refine va_sld hx hb hX hbl hbA hS (vp_in_nI (by omega) (by omega)) dL_law_572 ?_
          rw [show (nI (i + 2)).toNatClampNeg = i + 2 from nI_clamp (by omega)]
          rw [h2]
          refine lv_aload_n hx hb dL_law_573 rfl (lv_at hl 4 rfl) ?_
          refine lv_iload hx hb dL_law_574 (lv_at hl 0 rfl) ?_
          refine lv_iconst (v := 3) hx hb dL_law_576 (by decide) ?_
          refine lv_iadd hx hb dL_law_577 ?_
          rw [show (nI i) + 3 = nI (i + 3) from nI_add i 3]
          refine va_sld hx hb hX hbl hbA hS (vp_in_nI (by omega) (by omega)) dL_law_578 ?_
          rw [show (nI (i + 3)).toNatClampNeg = i + 3 from nI_clamp (by omega)]
          refine lv_aload_n hx hb dL_law_579 rfl (lv_at hl 1 rfl) ?_
          refine g_LS (As := [.ref x0, .int (nI 0), .int (nI k), .int (xs (i + 3)), .ref o]) (rest := []) ⟨hx, hb, hml, hown, hts⟩ (mt_L_insert_3_0 l htr dC dI cA cL H.size x0 r0 r1 r2 r3 rn a0 L0 f0 k (xs (i + 3)) o fo hR0 (show k ≤ L0.length from by omega) h0 hh1 hh2 (by omega)) (vx_cwSW 5 hts gL_law_L_insert rfl rfl rfl hdL_insert ⟨Nat.le_of_ble_eq_true rfl, Nat.le_of_ble_eq_true rfl⟩) hP hKl hD hS hA hZ [0, 1, 2, 15] (by decide) rfl rfl hl.1 rfl (Nat.le_of_ble_eq_true rfl) dL_law_580 hc1 hs1 (fun u9 => [(x0, .inr (1, [.ref r0, .ref r1, .ref r2, .ref r3, .int (nI rn)])), (r0, .inr (0, [.ref a0, .int (nI L0.length)])), (a0, .inl (cA, (100, .inl f0))), (r1, .inr (0, [.ref a1, .int (nI L1.length)])), (a1, .inl (cA, (100, .inl f1))), (r2, .inr (0, [.ref a2, .int n2])), (a2, .inl (cA, (100, .inl f2))), (r3, .inr (0, [.ref a3, .int n3])), (a3, .inl (cA, (100, .inl f3))), (y0, .inr (2, [.int tv, .int (nI rn), .ref q1, .ref q2, .int mn, .ref q3, .ref q4, .int ct, .int il, .ref q5])), (q1, .inl (cA, (2, .inl sf))), (q2, .inl (cA, (60, .inl lf))), (q3, .inl (cA, (320, .inl rf))), (q4, .inl (cA, (320, .inl nf))), (q5, .inl (cA, (6, .inl gf))), (o, .inl (cL, (1, .inr (.inl fo))))]) (fun _ => rfl) (fun _ => rfl) (fun u H locs hw_1 hP hD hS => ?_)
          have hP : va_P (dC, dI) vwCl [(x0, .inr (1, [.ref r0, .ref r1, .ref r2, .ref r3, .int (nI rn)])), (r0, .inr (0, [.ref a0, .int (nI L0.length)])), (a0, .inl (cA, (100, .inl f0))), (r1, .inr (0, [.ref a1, .int (nI L1.length)])), (a1, .inl (cA, (100, .inl f1))), (r2, .inr (0, [.ref a2, .int n2])), (a2, .inl (cA, (100, .inl f2))), (r3, .inr (0, [.ref a3, .int n3])), (a3, .inl (cA, (100, .inl f3))), (y0, .inr (2, [.int tv, .int (nI rn), .ref q1, .ref q2, .int mn, .ref q3, .ref q4, .int ct, .int il, .ref q5])), (q1, .inl (cA, (2, .inl sf))), (q2, .inl (cA, (60, .inl lf))), (q3, .inl (cA, (320, .inl rf))), (q4, .inl (cA, (320, .inl nf))), (q5, .inl (cA, (6, .inl gf))), (o, .inl (cL, (1, .inr (.inl fo))))] H := hP
          have hD : va_D A [(x0, .inr (1, [.ref r0, .ref r1, .ref r2, .ref r3, .int (nI rn)])), (r0, .inr (0, [.ref a0, .int (nI L0.length)])), (a0, .inl (cA, (100, .inl f0))), (r1, .inr (0, [.ref a1, .int (nI L1.length)])), (a1, .inl (cA, (100, .inl f1))), (r2, .inr (0, [.ref a2, .int n2])), (a2, .inl (cA, (100, .inl f2))), (r3, .inr (0, [.ref a3, .int n3])), (a3, .inl (cA, (100, .inl f3))), (y0, .inr (2, [.int tv, .int (nI rn), .ref q1, .ref q2, .int mn, .ref q3, .ref q4, .int ct, .int il, .ref q5])), (q1, .inl (cA, (2, .inl sf))), (q2, .inl (cA, (60, .inl lf))), (q3, .inl (cA, (320, .inl rf))), (q4, .inl (cA, (320, .inl nf))), (q5, .inl (cA, (6, .inl gf))), (o, .inl (cL, (1, .inr (.inl fo))))] := hD
          refine lv_istore (lv' := [(5, .int 3), (4, .int (nI i)), (3, .ref o), (2, .ref y0), (1, .ref x0), (0, .ref b)]) hx hb dL_law_583 hl (by decide) rfl (fun ls hl => ?_)
          refine lv_aload_n hx hb dL_law_585 rfl (lv_at hl 3 rfl) ?_
          refine lv_aload_n hx hb dL_law_586 rfl (lv_at hl 5 rfl) ?_
          refine lv_iload hx hb dL_law_587 (lv_at hl 1 rfl) ?_
          refine lv_iconst (v := 1) hx hb dL_law_589 (by decide) ?_
          refine lv_iadd hx hb dL_law_590 ?_
          rw [show (nI i) + 1 = nI (i + 1) from nI_add i 1]
          refine va_sld hx hb hX hbl hbA hS (vp_in_nI (by omega) (by omega)) dL_law_591 ?_
          rw [show (nI (i + 1)).toNatClampNeg = i + 1 from nI_clamp (by omega)]
          rw [h1]
          refine lv_aload_n hx hb dL_law_592 rfl (lv_at hl 5 rfl) ?_
          refine lv_iload hx hb dL_law_593 (lv_at hl 1 rfl) ?_
          refine lv_iconst (v := 2) hx hb dL_law_595 (by decide) ?_
          refine lv_iadd hx hb dL_law_596 ?_
          rw [show (nI i) + 2 = nI (i + 2) from nI_add i 2]
          refine va_sld hx hb hX hbl hbA hS (vp_in_nI (by omega) (by omega)) dL_law_597 ?_
          rw [show (nI (i + 2)).toNatClampNeg = i + 2 from nI_clamp (by omega)]
          rw [h2]
          refine lv_aload_n hx hb dL_law_598 rfl (lv_at hl 5 rfl) ?_
          refine lv_iload hx hb dL_law_599 (lv_at hl 1 rfl) ?_
          refine lv_iconst (v := 3) hx hb dL_law_601 (by decide) ?_
          refine lv_iadd hx hb dL_law_602 ?_
          rw [show (nI i) + 3 = nI (i + 3) from nI_add i 3]
          refine va_sld hx hb hX hbl hbA hS (vp_in_nI (by omega) (by omega)) dL_law_603 ?_
          rw [show (nI (i + 3)).toNatClampNeg = i + 3 from nI_clamp (by omega)]
          refine g_MVi (As := [.int (nI 0), .int (nI k), .int (xs (i + 3))]) (rest := []) ⟨hx, hb, hml, hown, hts⟩ (mt_X2_insert_3 l dC dI cA H.size y0 q1 q2 q3 q4 q5 rn tv sf lf mn rf nf ct il gf (V2 L0 L1) 0 k (xs (i + 3)) hW (by omega) hrn h0 hh1 hh2 (show k ≤ L0.length from by omega) (show 30 < L0.length + 2 from by omega)) (cwV 3 hts gL_law_X2_insert rfl rfl rfl hdX2_insert ⟨Nat.le_of_ble_eq_true rfl, Nat.le_of_ble_eq_true rfl⟩) hP hK hD hS hA [9, 10, 11, 12, 13, 14] (by decide) rfl (va_recv hK hP (ci := 2) (q0 := 9) rfl rfl) rfl hl.1 rfl (Nat.le_of_ble_eq_true rfl) dL_law_604 hc1 hs1 (fun u9 => [(x0, .inr (1, [.ref r0, .ref r1, .ref r2, .ref r3, .int (nI rn)])), (r0, .inr (0, [.ref a0, .int (nI L0.length)])), (a0, .inl (cA, (100, .inl f0))), (r1, .inr (0, [.ref a1, .int (nI L1.length)])), (a1, .inl (cA, (100, .inl f1))), (r2, .inr (0, [.ref a2, .int n2])), (a2, .inl (cA, (100, .inl f2))), (r3, .inr (0, [.ref a3, .int n3])), (a3, .inl (cA, (100, .inl f3))), (y0, .inr (2, [.int 3, .int (nI rn), .ref q1, .ref q2, .int mn, .ref q3, .ref q4, .int ct, .int il, .ref q5])), (q1, .inl (cA, (2, .inl sf))), (q2, .inl (cA, (60, .inl lf))), (q3, .inl (cA, (320, .inl rf))), (q4, .inl (cA, (320, .inl nf))), (q5, .inl (cA, (6, .inl gf))), (o, .inl (cL, (1, .inr (.inl fo))))]) (fun _ => rfl) (fun _ => rfl) (fun u H locs hw_2 hP hD hS => ?_)
          have hw_2 : True := hw_2
          have hP : va_P (dC, dI) vwCl [(x0, .inr (1, [.ref r0, .ref r1, .ref r2, .ref r3, .int (nI rn)])), (r0, .inr (0, [.ref a0, .int (nI L0.length)])), (a0, .inl (cA, (100, .inl f0))), (r1, .inr (0, [.ref a1, .int (nI L1.length)])), (a1, .inl (cA, (100, .inl f1))), (r2, .inr (0, [.ref a2, .int n2])), (a2, .inl (cA, (100, .inl f2))), (r3, .inr (0, [.ref a3, .int n3])), (a3, .inl (cA, (100, .inl f3))), (y0, .inr (2, [.int 3, .int (nI rn), .ref q1, .ref q2, .int mn, .ref q3, .ref q4, .int ct, .int il, .ref q5])), (q1, .inl (cA, (2, .inl sf))), (q2, .inl (cA, (60, .inl lf))), (q3, .inl (cA, (320, .inl rf))), (q4, .inl (cA, (320, .inl nf))), (q5, .inl (cA, (6, .inl gf))), (o, .inl (cL, (1, .inr (.inl fo))))] H := hP
          have hD : va_D A [(x0, .inr (1, [.ref r0, .ref r1, .ref r2, .ref r3, .int (nI rn)])), (r0, .inr (0, [.ref a0, .int (nI L0.length)])), (a0, .inl (cA, (100, .inl f0))), (r1, .inr (0, [.ref a1, .int (nI L1.length)])), (a1, .inl (cA, (100, .inl f1))), (r2, .inr (0, [.ref a2, .int n2])), (a2, .inl (cA, (100, .inl f2))), (r3, .inr (0, [.ref a3, .int n3])), (a3, .inl (cA, (100, .inl f3))), (y0, .inr (2, [.int 3, .int (nI rn), .ref q1, .ref q2, .int mn, .ref q3, .ref q4, .int ct, .int il, .ref q5])), (q1, .inl (cA, (2, .inl sf))), (q2, .inl (cA, (60, .inl lf))), (q3, .inl (cA, (320, .inl rf))), (q4, .inl (cA, (320, .inl nf))), (q5, .inl (cA, (6, .inl gf))), (o, .inl (cL, (1, .inr (.inl fo))))] := hD
          refine lv_istore (lv' := [(6, .int 0), (5, .int 3), (4, .int (nI i)), (3, .ref o), (2, .ref y0), (1, .ref x0), (0, .ref b)]) hx hb dL_law_607 hl (by decide) rfl (fun ls hl => ?_)
          refine lv_aload_n hx hb dL_law_609 rfl (lv_at hl 4 rfl) ?_
          refine g_RVi (As := []) (rest := []) ⟨hx, hb, hml, hown, hts⟩ (mt_X2_thrown l dC dI cA H.size y0 q1 q2 q3 q4 q5 rn 3 sf lf mn rf nf ct il gf) (cwV 0 hts gL_law_X2_thrown rfl rfl rfl hdX2_thrown ⟨Nat.le_of_ble_eq_true rfl, Nat.le_of_ble_eq_true rfl⟩) hP hK hD [9, 10, 11, 12, 13, 14] (by decide) rfl (va_recv hK hP (ci := 2) (q0 := 9) rfl rfl) rfl hl.1 rfl (Nat.le_of_ble_eq_true rfl) dL_law_610 hc1 hs1 ?_
          refine lv_iload hx hb dL_law_613 (lv_at hl 1 rfl) ?_
          refine lv_icmp_eq (tgt := 620) hx hb dL_law_615 (by decide) (fun c615 => ?_) (fun c615 => ?_)
          · refine lv_iload hx hb dL_law_620 (lv_at hl 1 rfl) ?_
            refine lv_if_ne (tgt := 637) hx hb dL_law_622 (by decide) (fun c622 => ?_) (fun c622 => ?_)
            · have c622 : ¬ 3 = 0 := g_neT 3 0 (by omega) (by omega) c622
              refine lv_goto (tgt := 1241) hx hb dL_law_637 (by decide) ?_
              exact kk rn L0 L1 _ _ _ _ _ ⟨f0, f1, n2, f2, n3, f3, 3, sf, lf, mn, rf, nf, ct, il, gf, fo, hP, hD, hS, hR0, hR1, hl0, hl1, hrn, hr6, hk0, hk1, hW⟩ (by omega) (by omega) (lv_sub hl [2, 3, 4, 5, 6] rfl)
            · exact absurd c622 (by decide)
          · exact absurd (by decide) c615
  · rcases pk_ix (xs (i + 2)) (n := L1.length + 1) (by omega) with hbad | hbad | ⟨k, hk9, h2⟩
    · refine lv_aload_n hx hb dL_law_560 rfl (lv_at hl 3 rfl) ?_
      refine lv_aload_n hx hb dL_law_561 rfl (lv_at hl 4 rfl) ?_
      refine lv_iload hx hb dL_law_562 (lv_at hl 0 rfl) ?_
      refine lv_iconst (v := 1) hx hb dL_law_564 (by decide) ?_
      refine lv_iadd hx hb dL_law_565 ?_
      rw [show (nI i) + 1 = nI (i + 1) from nI_add i 1]
      refine va_sld hx hb hX hbl hbA hS (vp_in_nI (by omega) (by omega)) dL_law_566 ?_
      rw [show (nI (i + 1)).toNatClampNeg = i + 1 from nI_clamp (by omega)]
      rw [h1]
      refine lv_aload_n hx hb dL_law_567 rfl (lv_at hl 4 rfl) ?_
      refine lv_iload hx hb dL_law_568 (lv_at hl 0 rfl) ?_
      refine lv_iconst (v := 2) hx hb dL_law_570 (by decide) ?_
      refine lv_iadd hx hb dL_law_571 ?_
      rw [show (nI i) + 2 = nI (i + 2) from nI_add i 2]
      refine va_sld hx hb hX hbl hbA hS (vp_in_nI (by omega) (by omega)) dL_law_572 ?_
      rw [show (nI (i + 2)).toNatClampNeg = i + 2 from nI_clamp (by omega)]
      refine lv_aload_n hx hb dL_law_573 rfl (lv_at hl 4 rfl) ?_
      refine lv_iload hx hb dL_law_574 (lv_at hl 0 rfl) ?_
      refine lv_iconst (v := 3) hx hb dL_law_576 (by decide) ?_
      refine lv_iadd hx hb dL_law_577 ?_
      rw [show (nI i) + 3 = nI (i + 3) from nI_add i 3]
      refine va_sld hx hb hX hbl hbA hS (vp_in_nI (by omega) (by omega)) dL_law_578 ?_
      rw [show (nI (i + 3)).toNatClampNeg = i + 3 from nI_clamp (by omega)]
      refine lv_aload_n hx hb dL_law_579 rfl (lv_at hl 1 rfl) ?_
      refine g_LS (As := [.ref x0, .int (nI 1), .int (xs (i + 2)), .int (xs (i + 3)), .ref o]) (rest := []) ⟨hx, hb, hml, hown, hts⟩ (mt_L_insert_1b_1 l htr dC dI cA cL H.size x0 r0 r1 r2 r3 rn a1 L1 f1 (xs (i + 2)) (xs (i + 3)) o fo hR1 (Or.inl hbad)) (vx_cwSW 5 hts gL_law_L_insert rfl rfl rfl hdL_insert ⟨Nat.le_of_ble_eq_true rfl, Nat.le_of_ble_eq_true rfl⟩) hP hKl hD hS hA hZ [0, 3, 4, 15] (by decide) rfl rfl hl.1 rfl (Nat.le_of_ble_eq_true rfl) dL_law_580 hc1 hs1 (fun u9 => [(x0, .inr (1, [.ref r0, .ref r1, .ref r2, .ref r3, .int (nI rn)])), (r0, .inr (0, [.ref a0, .int (nI L0.length)])), (a0, .inl (cA, (100, .inl f0))), (r1, .inr (0, [.ref a1, .int (nI L1.length)])), (a1, .inl (cA, (100, .inl f1))), (r2, .inr (0, [.ref a2, .int n2])), (a2, .inl (cA, (100, .inl f2))), (r3, .inr (0, [.ref a3, .int n3])), (a3, .inl (cA, (100, .inl f3))), (y0, .inr (2, [.int tv, .int (nI rn), .ref q1, .ref q2, .int mn, .ref q3, .ref q4, .int ct, .int il, .ref q5])), (q1, .inl (cA, (2, .inl sf))), (q2, .inl (cA, (60, .inl lf))), (q3, .inl (cA, (320, .inl rf))), (q4, .inl (cA, (320, .inl nf))), (q5, .inl (cA, (6, .inl gf))), (o, .inl (cL, (1, .inr (.inl fo))))]) (fun _ => rfl) (fun _ => rfl) (fun u H locs hw_1 hP hD hS => ?_)
      have hP : va_P (dC, dI) vwCl [(x0, .inr (1, [.ref r0, .ref r1, .ref r2, .ref r3, .int (nI rn)])), (r0, .inr (0, [.ref a0, .int (nI L0.length)])), (a0, .inl (cA, (100, .inl f0))), (r1, .inr (0, [.ref a1, .int (nI L1.length)])), (a1, .inl (cA, (100, .inl f1))), (r2, .inr (0, [.ref a2, .int n2])), (a2, .inl (cA, (100, .inl f2))), (r3, .inr (0, [.ref a3, .int n3])), (a3, .inl (cA, (100, .inl f3))), (y0, .inr (2, [.int tv, .int (nI rn), .ref q1, .ref q2, .int mn, .ref q3, .ref q4, .int ct, .int il, .ref q5])), (q1, .inl (cA, (2, .inl sf))), (q2, .inl (cA, (60, .inl lf))), (q3, .inl (cA, (320, .inl rf))), (q4, .inl (cA, (320, .inl nf))), (q5, .inl (cA, (6, .inl gf))), (o, .inl (cL, (1, .inr (.inl fo))))] H := hP
      have hD : va_D A [(x0, .inr (1, [.ref r0, .ref r1, .ref r2, .ref r3, .int (nI rn)])), (r0, .inr (0, [.ref a0, .int (nI L0.length)])), (a0, .inl (cA, (100, .inl f0))), (r1, .inr (0, [.ref a1, .int (nI L1.length)])), (a1, .inl (cA, (100, .inl f1))), (r2, .inr (0, [.ref a2, .int n2])), (a2, .inl (cA, (100, .inl f2))), (r3, .inr (0, [.ref a3, .int n3])), (a3, .inl (cA, (100, .inl f3))), (y0, .inr (2, [.int tv, .int (nI rn), .ref q1, .ref q2, .int mn, .ref q3, .ref q4, .int ct, .int il, .ref q5])), (q1, .inl (cA, (2, .inl sf))), (q2, .inl (cA, (60, .inl lf))), (q3, .inl (cA, (320, .inl rf))), (q4, .inl (cA, (320, .inl nf))), (q5, .inl (cA, (6, .inl gf))), (o, .inl (cL, (1, .inr (.inl fo))))] := hD
      refine lv_istore (lv' := [(5, .int 1), (4, .int (nI i)), (3, .ref o), (2, .ref y0), (1, .ref x0), (0, .ref b)]) hx hb dL_law_583 hl (by decide) rfl (fun ls hl => ?_)
      refine lv_aload_n hx hb dL_law_585 rfl (lv_at hl 3 rfl) ?_
      refine lv_aload_n hx hb dL_law_586 rfl (lv_at hl 5 rfl) ?_
      refine lv_iload hx hb dL_law_587 (lv_at hl 1 rfl) ?_
      refine lv_iconst (v := 1) hx hb dL_law_589 (by decide) ?_
      refine lv_iadd hx hb dL_law_590 ?_
      rw [show (nI i) + 1 = nI (i + 1) from nI_add i 1]
      refine va_sld hx hb hX hbl hbA hS (vp_in_nI (by omega) (by omega)) dL_law_591 ?_
      rw [show (nI (i + 1)).toNatClampNeg = i + 1 from nI_clamp (by omega)]
      rw [h1]
      refine lv_aload_n hx hb dL_law_592 rfl (lv_at hl 5 rfl) ?_
      refine lv_iload hx hb dL_law_593 (lv_at hl 1 rfl) ?_
      refine lv_iconst (v := 2) hx hb dL_law_595 (by decide) ?_
      refine lv_iadd hx hb dL_law_596 ?_
      rw [show (nI i) + 2 = nI (i + 2) from nI_add i 2]
      refine va_sld hx hb hX hbl hbA hS (vp_in_nI (by omega) (by omega)) dL_law_597 ?_
      rw [show (nI (i + 2)).toNatClampNeg = i + 2 from nI_clamp (by omega)]
      refine lv_aload_n hx hb dL_law_598 rfl (lv_at hl 5 rfl) ?_
      refine lv_iload hx hb dL_law_599 (lv_at hl 1 rfl) ?_
      refine lv_iconst (v := 3) hx hb dL_law_601 (by decide) ?_
      refine lv_iadd hx hb dL_law_602 ?_
      rw [show (nI i) + 3 = nI (i + 3) from nI_add i 3]
      refine va_sld hx hb hX hbl hbA hS (vp_in_nI (by omega) (by omega)) dL_law_603 ?_
      rw [show (nI (i + 3)).toNatClampNeg = i + 3 from nI_clamp (by omega)]
      refine g_MVi (As := [.int (nI 1), .int (xs (i + 2)), .int (xs (i + 3))]) (rest := []) ⟨hx, hb, hml, hown, hts⟩ (mt_X2_insert_1b l dC dI cA H.size y0 q1 q2 q3 q4 q5 rn tv sf lf mn rf nf ct il gf (V2 L0 L1) 1 (xs (i + 2)) (xs (i + 3)) hW (by omega) (Or.inl hbad)) (cwV 3 hts gL_law_X2_insert rfl rfl rfl hdX2_insert ⟨Nat.le_of_ble_eq_true rfl, Nat.le_of_ble_eq_true rfl⟩) hP hK hD hS hA [9, 10, 11, 12, 13, 14] (by decide) rfl (va_recv hK hP (ci := 2) (q0 := 9) rfl rfl) rfl hl.1 rfl (Nat.le_of_ble_eq_true rfl) dL_law_604 hc1 hs1 (fun u9 => [(x0, .inr (1, [.ref r0, .ref r1, .ref r2, .ref r3, .int (nI rn)])), (r0, .inr (0, [.ref a0, .int (nI L0.length)])), (a0, .inl (cA, (100, .inl f0))), (r1, .inr (0, [.ref a1, .int (nI L1.length)])), (a1, .inl (cA, (100, .inl f1))), (r2, .inr (0, [.ref a2, .int n2])), (a2, .inl (cA, (100, .inl f2))), (r3, .inr (0, [.ref a3, .int n3])), (a3, .inl (cA, (100, .inl f3))), (y0, .inr (2, [.int 1, .int (nI rn), .ref q1, .ref q2, .int mn, .ref q3, .ref q4, .int ct, .int il, .ref q5])), (q1, .inl (cA, (2, .inl sf))), (q2, .inl (cA, (60, .inl lf))), (q3, .inl (cA, (320, .inl rf))), (q4, .inl (cA, (320, .inl nf))), (q5, .inl (cA, (6, .inl gf))), (o, .inl (cL, (1, .inr (.inl fo))))]) (fun _ => rfl) (fun _ => rfl) (fun u H locs hw_2 hP hD hS => ?_)
      have hw_2 : True := hw_2
      have hP : va_P (dC, dI) vwCl [(x0, .inr (1, [.ref r0, .ref r1, .ref r2, .ref r3, .int (nI rn)])), (r0, .inr (0, [.ref a0, .int (nI L0.length)])), (a0, .inl (cA, (100, .inl f0))), (r1, .inr (0, [.ref a1, .int (nI L1.length)])), (a1, .inl (cA, (100, .inl f1))), (r2, .inr (0, [.ref a2, .int n2])), (a2, .inl (cA, (100, .inl f2))), (r3, .inr (0, [.ref a3, .int n3])), (a3, .inl (cA, (100, .inl f3))), (y0, .inr (2, [.int 1, .int (nI rn), .ref q1, .ref q2, .int mn, .ref q3, .ref q4, .int ct, .int il, .ref q5])), (q1, .inl (cA, (2, .inl sf))), (q2, .inl (cA, (60, .inl lf))), (q3, .inl (cA, (320, .inl rf))), (q4, .inl (cA, (320, .inl nf))), (q5, .inl (cA, (6, .inl gf))), (o, .inl (cL, (1, .inr (.inl fo))))] H := hP
      have hD : va_D A [(x0, .inr (1, [.ref r0, .ref r1, .ref r2, .ref r3, .int (nI rn)])), (r0, .inr (0, [.ref a0, .int (nI L0.length)])), (a0, .inl (cA, (100, .inl f0))), (r1, .inr (0, [.ref a1, .int (nI L1.length)])), (a1, .inl (cA, (100, .inl f1))), (r2, .inr (0, [.ref a2, .int n2])), (a2, .inl (cA, (100, .inl f2))), (r3, .inr (0, [.ref a3, .int n3])), (a3, .inl (cA, (100, .inl f3))), (y0, .inr (2, [.int 1, .int (nI rn), .ref q1, .ref q2, .int mn, .ref q3, .ref q4, .int ct, .int il, .ref q5])), (q1, .inl (cA, (2, .inl sf))), (q2, .inl (cA, (60, .inl lf))), (q3, .inl (cA, (320, .inl rf))), (q4, .inl (cA, (320, .inl nf))), (q5, .inl (cA, (6, .inl gf))), (o, .inl (cL, (1, .inr (.inl fo))))] := hD
      refine lv_istore (lv' := [(6, .int 0), (5, .int 1), (4, .int (nI i)), (3, .ref o), (2, .ref y0), (1, .ref x0), (0, .ref b)]) hx hb dL_law_607 hl (by decide) rfl (fun ls hl => ?_)
      refine lv_aload_n hx hb dL_law_609 rfl (lv_at hl 4 rfl) ?_
      refine g_RVi (As := []) (rest := []) ⟨hx, hb, hml, hown, hts⟩ (mt_X2_thrown l dC dI cA H.size y0 q1 q2 q3 q4 q5 rn 1 sf lf mn rf nf ct il gf) (cwV 0 hts gL_law_X2_thrown rfl rfl rfl hdX2_thrown ⟨Nat.le_of_ble_eq_true rfl, Nat.le_of_ble_eq_true rfl⟩) hP hK hD [9, 10, 11, 12, 13, 14] (by decide) rfl (va_recv hK hP (ci := 2) (q0 := 9) rfl rfl) rfl hl.1 rfl (Nat.le_of_ble_eq_true rfl) dL_law_610 hc1 hs1 ?_
      refine lv_iload hx hb dL_law_613 (lv_at hl 1 rfl) ?_
      refine lv_icmp_eq (tgt := 620) hx hb dL_law_615 (by decide) (fun c615 => ?_) (fun c615 => ?_)
      · refine lv_iload hx hb dL_law_620 (lv_at hl 1 rfl) ?_
        refine lv_if_ne (tgt := 637) hx hb dL_law_622 (by decide) (fun c622 => ?_) (fun c622 => ?_)
        · have c622 : ¬ 1 = 0 := g_neT 1 0 (by omega) (by omega) c622
          refine lv_goto (tgt := 1241) hx hb dL_law_637 (by decide) ?_
          exact kk rn L0 L1 _ _ _ _ _ ⟨f0, f1, n2, f2, n3, f3, 1, sf, lf, mn, rf, nf, ct, il, gf, fo, hP, hD, hS, hR0, hR1, hl0, hl1, hrn, hr6, hk0, hk1, hW⟩ (by omega) (by omega) (lv_sub hl [2, 3, 4, 5, 6] rfl)
        · exact absurd c622 (by decide)
      · exact absurd (by decide) c615
    · refine lv_aload_n hx hb dL_law_560 rfl (lv_at hl 3 rfl) ?_
      refine lv_aload_n hx hb dL_law_561 rfl (lv_at hl 4 rfl) ?_
      refine lv_iload hx hb dL_law_562 (lv_at hl 0 rfl) ?_
      refine lv_iconst (v := 1) hx hb dL_law_564 (by decide) ?_
      refine lv_iadd hx hb dL_law_565 ?_
      rw [show (nI i) + 1 = nI (i + 1) from nI_add i 1]
      refine va_sld hx hb hX hbl hbA hS (vp_in_nI (by omega) (by omega)) dL_law_566 ?_
      rw [show (nI (i + 1)).toNatClampNeg = i + 1 from nI_clamp (by omega)]
      rw [h1]
      refine lv_aload_n hx hb dL_law_567 rfl (lv_at hl 4 rfl) ?_
      refine lv_iload hx hb dL_law_568 (lv_at hl 0 rfl) ?_
      refine lv_iconst (v := 2) hx hb dL_law_570 (by decide) ?_
      refine lv_iadd hx hb dL_law_571 ?_
      rw [show (nI i) + 2 = nI (i + 2) from nI_add i 2]
      refine va_sld hx hb hX hbl hbA hS (vp_in_nI (by omega) (by omega)) dL_law_572 ?_
      rw [show (nI (i + 2)).toNatClampNeg = i + 2 from nI_clamp (by omega)]
      refine lv_aload_n hx hb dL_law_573 rfl (lv_at hl 4 rfl) ?_
      refine lv_iload hx hb dL_law_574 (lv_at hl 0 rfl) ?_
      refine lv_iconst (v := 3) hx hb dL_law_576 (by decide) ?_
      refine lv_iadd hx hb dL_law_577 ?_
      rw [show (nI i) + 3 = nI (i + 3) from nI_add i 3]
      refine va_sld hx hb hX hbl hbA hS (vp_in_nI (by omega) (by omega)) dL_law_578 ?_
      rw [show (nI (i + 3)).toNatClampNeg = i + 3 from nI_clamp (by omega)]
      refine lv_aload_n hx hb dL_law_579 rfl (lv_at hl 1 rfl) ?_
      refine g_LS (As := [.ref x0, .int (nI 1), .int (xs (i + 2)), .int (xs (i + 3)), .ref o]) (rest := []) ⟨hx, hb, hml, hown, hts⟩ (mt_L_insert_1b_1 l htr dC dI cA cL H.size x0 r0 r1 r2 r3 rn a1 L1 f1 (xs (i + 2)) (xs (i + 3)) o fo hR1 (Or.inr hbad)) (vx_cwSW 5 hts gL_law_L_insert rfl rfl rfl hdL_insert ⟨Nat.le_of_ble_eq_true rfl, Nat.le_of_ble_eq_true rfl⟩) hP hKl hD hS hA hZ [0, 3, 4, 15] (by decide) rfl rfl hl.1 rfl (Nat.le_of_ble_eq_true rfl) dL_law_580 hc1 hs1 (fun u9 => [(x0, .inr (1, [.ref r0, .ref r1, .ref r2, .ref r3, .int (nI rn)])), (r0, .inr (0, [.ref a0, .int (nI L0.length)])), (a0, .inl (cA, (100, .inl f0))), (r1, .inr (0, [.ref a1, .int (nI L1.length)])), (a1, .inl (cA, (100, .inl f1))), (r2, .inr (0, [.ref a2, .int n2])), (a2, .inl (cA, (100, .inl f2))), (r3, .inr (0, [.ref a3, .int n3])), (a3, .inl (cA, (100, .inl f3))), (y0, .inr (2, [.int tv, .int (nI rn), .ref q1, .ref q2, .int mn, .ref q3, .ref q4, .int ct, .int il, .ref q5])), (q1, .inl (cA, (2, .inl sf))), (q2, .inl (cA, (60, .inl lf))), (q3, .inl (cA, (320, .inl rf))), (q4, .inl (cA, (320, .inl nf))), (q5, .inl (cA, (6, .inl gf))), (o, .inl (cL, (1, .inr (.inl fo))))]) (fun _ => rfl) (fun _ => rfl) (fun u H locs hw_1 hP hD hS => ?_)
      have hP : va_P (dC, dI) vwCl [(x0, .inr (1, [.ref r0, .ref r1, .ref r2, .ref r3, .int (nI rn)])), (r0, .inr (0, [.ref a0, .int (nI L0.length)])), (a0, .inl (cA, (100, .inl f0))), (r1, .inr (0, [.ref a1, .int (nI L1.length)])), (a1, .inl (cA, (100, .inl f1))), (r2, .inr (0, [.ref a2, .int n2])), (a2, .inl (cA, (100, .inl f2))), (r3, .inr (0, [.ref a3, .int n3])), (a3, .inl (cA, (100, .inl f3))), (y0, .inr (2, [.int tv, .int (nI rn), .ref q1, .ref q2, .int mn, .ref q3, .ref q4, .int ct, .int il, .ref q5])), (q1, .inl (cA, (2, .inl sf))), (q2, .inl (cA, (60, .inl lf))), (q3, .inl (cA, (320, .inl rf))), (q4, .inl (cA, (320, .inl nf))), (q5, .inl (cA, (6, .inl gf))), (o, .inl (cL, (1, .inr (.inl fo))))] H := hP
      have hD : va_D A [(x0, .inr (1, [.ref r0, .ref r1, .ref r2, .ref r3, .int (nI rn)])), (r0, .inr (0, [.ref a0, .int (nI L0.length)])), (a0, .inl (cA, (100, .inl f0))), (r1, .inr (0, [.ref a1, .int (nI L1.length)])), (a1, .inl (cA, (100, .inl f1))), (r2, .inr (0, [.ref a2, .int n2])), (a2, .inl (cA, (100, .inl f2))), (r3, .inr (0, [.ref a3, .int n3])), (a3, .inl (cA, (100, .inl f3))), (y0, .inr (2, [.int tv, .int (nI rn), .ref q1, .ref q2, .int mn, .ref q3, .ref q4, .int ct, .int il, .ref q5])), (q1, .inl (cA, (2, .inl sf))), (q2, .inl (cA, (60, .inl lf))), (q3, .inl (cA, (320, .inl rf))), (q4, .inl (cA, (320, .inl nf))), (q5, .inl (cA, (6, .inl gf))), (o, .inl (cL, (1, .inr (.inl fo))))] := hD
      refine lv_istore (lv' := [(5, .int 1), (4, .int (nI i)), (3, .ref o), (2, .ref y0), (1, .ref x0), (0, .ref b)]) hx hb dL_law_583 hl (by decide) rfl (fun ls hl => ?_)
      refine lv_aload_n hx hb dL_law_585 rfl (lv_at hl 3 rfl) ?_
      refine lv_aload_n hx hb dL_law_586 rfl (lv_at hl 5 rfl) ?_
      refine lv_iload hx hb dL_law_587 (lv_at hl 1 rfl) ?_
      refine lv_iconst (v := 1) hx hb dL_law_589 (by decide) ?_
      refine lv_iadd hx hb dL_law_590 ?_
      rw [show (nI i) + 1 = nI (i + 1) from nI_add i 1]
      refine va_sld hx hb hX hbl hbA hS (vp_in_nI (by omega) (by omega)) dL_law_591 ?_
      rw [show (nI (i + 1)).toNatClampNeg = i + 1 from nI_clamp (by omega)]
      rw [h1]
      refine lv_aload_n hx hb dL_law_592 rfl (lv_at hl 5 rfl) ?_
      refine lv_iload hx hb dL_law_593 (lv_at hl 1 rfl) ?_
      refine lv_iconst (v := 2) hx hb dL_law_595 (by decide) ?_
      refine lv_iadd hx hb dL_law_596 ?_
      rw [show (nI i) + 2 = nI (i + 2) from nI_add i 2]
      refine va_sld hx hb hX hbl hbA hS (vp_in_nI (by omega) (by omega)) dL_law_597 ?_
      rw [show (nI (i + 2)).toNatClampNeg = i + 2 from nI_clamp (by omega)]
      refine lv_aload_n hx hb dL_law_598 rfl (lv_at hl 5 rfl) ?_
      refine lv_iload hx hb dL_law_599 (lv_at hl 1 rfl) ?_
      refine lv_iconst (v := 3) hx hb dL_law_601 (by decide) ?_
      refine lv_iadd hx hb dL_law_602 ?_
      rw [show (nI i) + 3 = nI (i + 3) from nI_add i 3]
      refine va_sld hx hb hX hbl hbA hS (vp_in_nI (by omega) (by omega)) dL_law_603 ?_
      rw [show (nI (i + 3)).toNatClampNeg = i + 3 from nI_clamp (by omega)]
      refine g_MVi (As := [.int (nI 1), .int (xs (i + 2)), .int (xs (i + 3))]) (rest := []) ⟨hx, hb, hml, hown, hts⟩ (mt_X2_insert_1b l dC dI cA H.size y0 q1 q2 q3 q4 q5 rn tv sf lf mn rf nf ct il gf (V2 L0 L1) 1 (xs (i + 2)) (xs (i + 3)) hW (by omega) (Or.inr hbad)) (cwV 3 hts gL_law_X2_insert rfl rfl rfl hdX2_insert ⟨Nat.le_of_ble_eq_true rfl, Nat.le_of_ble_eq_true rfl⟩) hP hK hD hS hA [9, 10, 11, 12, 13, 14] (by decide) rfl (va_recv hK hP (ci := 2) (q0 := 9) rfl rfl) rfl hl.1 rfl (Nat.le_of_ble_eq_true rfl) dL_law_604 hc1 hs1 (fun u9 => [(x0, .inr (1, [.ref r0, .ref r1, .ref r2, .ref r3, .int (nI rn)])), (r0, .inr (0, [.ref a0, .int (nI L0.length)])), (a0, .inl (cA, (100, .inl f0))), (r1, .inr (0, [.ref a1, .int (nI L1.length)])), (a1, .inl (cA, (100, .inl f1))), (r2, .inr (0, [.ref a2, .int n2])), (a2, .inl (cA, (100, .inl f2))), (r3, .inr (0, [.ref a3, .int n3])), (a3, .inl (cA, (100, .inl f3))), (y0, .inr (2, [.int 1, .int (nI rn), .ref q1, .ref q2, .int mn, .ref q3, .ref q4, .int ct, .int il, .ref q5])), (q1, .inl (cA, (2, .inl sf))), (q2, .inl (cA, (60, .inl lf))), (q3, .inl (cA, (320, .inl rf))), (q4, .inl (cA, (320, .inl nf))), (q5, .inl (cA, (6, .inl gf))), (o, .inl (cL, (1, .inr (.inl fo))))]) (fun _ => rfl) (fun _ => rfl) (fun u H locs hw_2 hP hD hS => ?_)
      have hw_2 : True := hw_2
      have hP : va_P (dC, dI) vwCl [(x0, .inr (1, [.ref r0, .ref r1, .ref r2, .ref r3, .int (nI rn)])), (r0, .inr (0, [.ref a0, .int (nI L0.length)])), (a0, .inl (cA, (100, .inl f0))), (r1, .inr (0, [.ref a1, .int (nI L1.length)])), (a1, .inl (cA, (100, .inl f1))), (r2, .inr (0, [.ref a2, .int n2])), (a2, .inl (cA, (100, .inl f2))), (r3, .inr (0, [.ref a3, .int n3])), (a3, .inl (cA, (100, .inl f3))), (y0, .inr (2, [.int 1, .int (nI rn), .ref q1, .ref q2, .int mn, .ref q3, .ref q4, .int ct, .int il, .ref q5])), (q1, .inl (cA, (2, .inl sf))), (q2, .inl (cA, (60, .inl lf))), (q3, .inl (cA, (320, .inl rf))), (q4, .inl (cA, (320, .inl nf))), (q5, .inl (cA, (6, .inl gf))), (o, .inl (cL, (1, .inr (.inl fo))))] H := hP
      have hD : va_D A [(x0, .inr (1, [.ref r0, .ref r1, .ref r2, .ref r3, .int (nI rn)])), (r0, .inr (0, [.ref a0, .int (nI L0.length)])), (a0, .inl (cA, (100, .inl f0))), (r1, .inr (0, [.ref a1, .int (nI L1.length)])), (a1, .inl (cA, (100, .inl f1))), (r2, .inr (0, [.ref a2, .int n2])), (a2, .inl (cA, (100, .inl f2))), (r3, .inr (0, [.ref a3, .int n3])), (a3, .inl (cA, (100, .inl f3))), (y0, .inr (2, [.int 1, .int (nI rn), .ref q1, .ref q2, .int mn, .ref q3, .ref q4, .int ct, .int il, .ref q5])), (q1, .inl (cA, (2, .inl sf))), (q2, .inl (cA, (60, .inl lf))), (q3, .inl (cA, (320, .inl rf))), (q4, .inl (cA, (320, .inl nf))), (q5, .inl (cA, (6, .inl gf))), (o, .inl (cL, (1, .inr (.inl fo))))] := hD
      refine lv_istore (lv' := [(6, .int 0), (5, .int 1), (4, .int (nI i)), (3, .ref o), (2, .ref y0), (1, .ref x0), (0, .ref b)]) hx hb dL_law_607 hl (by decide) rfl (fun ls hl => ?_)
      refine lv_aload_n hx hb dL_law_609 rfl (lv_at hl 4 rfl) ?_
      refine g_RVi (As := []) (rest := []) ⟨hx, hb, hml, hown, hts⟩ (mt_X2_thrown l dC dI cA H.size y0 q1 q2 q3 q4 q5 rn 1 sf lf mn rf nf ct il gf) (cwV 0 hts gL_law_X2_thrown rfl rfl rfl hdX2_thrown ⟨Nat.le_of_ble_eq_true rfl, Nat.le_of_ble_eq_true rfl⟩) hP hK hD [9, 10, 11, 12, 13, 14] (by decide) rfl (va_recv hK hP (ci := 2) (q0 := 9) rfl rfl) rfl hl.1 rfl (Nat.le_of_ble_eq_true rfl) dL_law_610 hc1 hs1 ?_
      refine lv_iload hx hb dL_law_613 (lv_at hl 1 rfl) ?_
      refine lv_icmp_eq (tgt := 620) hx hb dL_law_615 (by decide) (fun c615 => ?_) (fun c615 => ?_)
      · refine lv_iload hx hb dL_law_620 (lv_at hl 1 rfl) ?_
        refine lv_if_ne (tgt := 637) hx hb dL_law_622 (by decide) (fun c622 => ?_) (fun c622 => ?_)
        · have c622 : ¬ 1 = 0 := g_neT 1 0 (by omega) (by omega) c622
          refine lv_goto (tgt := 1241) hx hb dL_law_637 (by decide) ?_
          exact kk rn L0 L1 _ _ _ _ _ ⟨f0, f1, n2, f2, n3, f3, 1, sf, lf, mn, rf, nf, ct, il, gf, fo, hP, hD, hS, hR0, hR1, hl0, hl1, hrn, hr6, hk0, hk1, hW⟩ (by omega) (by omega) (lv_sub hl [2, 3, 4, 5, 6] rfl)
        · exact absurd c622 (by decide)
      · exact absurd (by decide) c615
    · rcases lt_ix rn (xs (i + 3)) with hbad | ⟨h0, hh1, hh2⟩
      · refine lv_aload_n hx hb dL_law_560 rfl (lv_at hl 3 rfl) ?_
        refine lv_aload_n hx hb dL_law_561 rfl (lv_at hl 4 rfl) ?_
        refine lv_iload hx hb dL_law_562 (lv_at hl 0 rfl) ?_
        refine lv_iconst (v := 1) hx hb dL_law_564 (by decide) ?_
        refine lv_iadd hx hb dL_law_565 ?_
        rw [show (nI i) + 1 = nI (i + 1) from nI_add i 1]
        refine va_sld hx hb hX hbl hbA hS (vp_in_nI (by omega) (by omega)) dL_law_566 ?_
        rw [show (nI (i + 1)).toNatClampNeg = i + 1 from nI_clamp (by omega)]
        rw [h1]
        refine lv_aload_n hx hb dL_law_567 rfl (lv_at hl 4 rfl) ?_
        refine lv_iload hx hb dL_law_568 (lv_at hl 0 rfl) ?_
        refine lv_iconst (v := 2) hx hb dL_law_570 (by decide) ?_
        refine lv_iadd hx hb dL_law_571 ?_
        rw [show (nI i) + 2 = nI (i + 2) from nI_add i 2]
        refine va_sld hx hb hX hbl hbA hS (vp_in_nI (by omega) (by omega)) dL_law_572 ?_
        rw [show (nI (i + 2)).toNatClampNeg = i + 2 from nI_clamp (by omega)]
        rw [h2]
        refine lv_aload_n hx hb dL_law_573 rfl (lv_at hl 4 rfl) ?_
        refine lv_iload hx hb dL_law_574 (lv_at hl 0 rfl) ?_
        refine lv_iconst (v := 3) hx hb dL_law_576 (by decide) ?_
        refine lv_iadd hx hb dL_law_577 ?_
        rw [show (nI i) + 3 = nI (i + 3) from nI_add i 3]
        refine va_sld hx hb hX hbl hbA hS (vp_in_nI (by omega) (by omega)) dL_law_578 ?_
        rw [show (nI (i + 3)).toNatClampNeg = i + 3 from nI_clamp (by omega)]
        refine lv_aload_n hx hb dL_law_579 rfl (lv_at hl 1 rfl) ?_
        refine g_LS (As := [.ref x0, .int (nI 1), .int (nI k), .int (xs (i + 3)), .ref o]) (rest := []) ⟨hx, hb, hml, hown, hts⟩ (mt_L_insert_2_1 l htr dC dI cA cL H.size x0 r0 r1 r2 r3 rn a1 L1 f1 k (xs (i + 3)) o fo hR1 (show k ≤ L1.length from by omega) hbad) (vx_cwSW 5 hts gL_law_L_insert rfl rfl rfl hdL_insert ⟨Nat.le_of_ble_eq_true rfl, Nat.le_of_ble_eq_true rfl⟩) hP hKl hD hS hA hZ [0, 3, 4, 15] (by decide) rfl rfl hl.1 rfl (Nat.le_of_ble_eq_true rfl) dL_law_580 hc1 hs1 (fun u9 => [(x0, .inr (1, [.ref r0, .ref r1, .ref r2, .ref r3, .int (nI rn)])), (r0, .inr (0, [.ref a0, .int (nI L0.length)])), (a0, .inl (cA, (100, .inl f0))), (r1, .inr (0, [.ref a1, .int (nI L1.length)])), (a1, .inl (cA, (100, .inl f1))), (r2, .inr (0, [.ref a2, .int n2])), (a2, .inl (cA, (100, .inl f2))), (r3, .inr (0, [.ref a3, .int n3])), (a3, .inl (cA, (100, .inl f3))), (y0, .inr (2, [.int tv, .int (nI rn), .ref q1, .ref q2, .int mn, .ref q3, .ref q4, .int ct, .int il, .ref q5])), (q1, .inl (cA, (2, .inl sf))), (q2, .inl (cA, (60, .inl lf))), (q3, .inl (cA, (320, .inl rf))), (q4, .inl (cA, (320, .inl nf))), (q5, .inl (cA, (6, .inl gf))), (o, .inl (cL, (1, .inr (.inl fo))))]) (fun _ => rfl) (fun _ => rfl) (fun u H locs hw_1 hP hD hS => ?_)
        have hP : va_P (dC, dI) vwCl [(x0, .inr (1, [.ref r0, .ref r1, .ref r2, .ref r3, .int (nI rn)])), (r0, .inr (0, [.ref a0, .int (nI L0.length)])), (a0, .inl (cA, (100, .inl f0))), (r1, .inr (0, [.ref a1, .int (nI L1.length)])), (a1, .inl (cA, (100, .inl f1))), (r2, .inr (0, [.ref a2, .int n2])), (a2, .inl (cA, (100, .inl f2))), (r3, .inr (0, [.ref a3, .int n3])), (a3, .inl (cA, (100, .inl f3))), (y0, .inr (2, [.int tv, .int (nI rn), .ref q1, .ref q2, .int mn, .ref q3, .ref q4, .int ct, .int il, .ref q5])), (q1, .inl (cA, (2, .inl sf))), (q2, .inl (cA, (60, .inl lf))), (q3, .inl (cA, (320, .inl rf))), (q4, .inl (cA, (320, .inl nf))), (q5, .inl (cA, (6, .inl gf))), (o, .inl (cL, (1, .inr (.inl fo))))] H := hP
        have hD : va_D A [(x0, .inr (1, [.ref r0, .ref r1, .ref r2, .ref r3, .int (nI rn)])), (r0, .inr (0, [.ref a0, .int (nI L0.length)])), (a0, .inl (cA, (100, .inl f0))), (r1, .inr (0, [.ref a1, .int (nI L1.length)])), (a1, .inl (cA, (100, .inl f1))), (r2, .inr (0, [.ref a2, .int n2])), (a2, .inl (cA, (100, .inl f2))), (r3, .inr (0, [.ref a3, .int n3])), (a3, .inl (cA, (100, .inl f3))), (y0, .inr (2, [.int tv, .int (nI rn), .ref q1, .ref q2, .int mn, .ref q3, .ref q4, .int ct, .int il, .ref q5])), (q1, .inl (cA, (2, .inl sf))), (q2, .inl (cA, (60, .inl lf))), (q3, .inl (cA, (320, .inl rf))), (q4, .inl (cA, (320, .inl nf))), (q5, .inl (cA, (6, .inl gf))), (o, .inl (cL, (1, .inr (.inl fo))))] := hD
        refine lv_istore (lv' := [(5, .int 2), (4, .int (nI i)), (3, .ref o), (2, .ref y0), (1, .ref x0), (0, .ref b)]) hx hb dL_law_583 hl (by decide) rfl (fun ls hl => ?_)
        refine lv_aload_n hx hb dL_law_585 rfl (lv_at hl 3 rfl) ?_
        refine lv_aload_n hx hb dL_law_586 rfl (lv_at hl 5 rfl) ?_
        refine lv_iload hx hb dL_law_587 (lv_at hl 1 rfl) ?_
        refine lv_iconst (v := 1) hx hb dL_law_589 (by decide) ?_
        refine lv_iadd hx hb dL_law_590 ?_
        rw [show (nI i) + 1 = nI (i + 1) from nI_add i 1]
        refine va_sld hx hb hX hbl hbA hS (vp_in_nI (by omega) (by omega)) dL_law_591 ?_
        rw [show (nI (i + 1)).toNatClampNeg = i + 1 from nI_clamp (by omega)]
        rw [h1]
        refine lv_aload_n hx hb dL_law_592 rfl (lv_at hl 5 rfl) ?_
        refine lv_iload hx hb dL_law_593 (lv_at hl 1 rfl) ?_
        refine lv_iconst (v := 2) hx hb dL_law_595 (by decide) ?_
        refine lv_iadd hx hb dL_law_596 ?_
        rw [show (nI i) + 2 = nI (i + 2) from nI_add i 2]
        refine va_sld hx hb hX hbl hbA hS (vp_in_nI (by omega) (by omega)) dL_law_597 ?_
        rw [show (nI (i + 2)).toNatClampNeg = i + 2 from nI_clamp (by omega)]
        rw [h2]
        refine lv_aload_n hx hb dL_law_598 rfl (lv_at hl 5 rfl) ?_
        refine lv_iload hx hb dL_law_599 (lv_at hl 1 rfl) ?_
        refine lv_iconst (v := 3) hx hb dL_law_601 (by decide) ?_
        refine lv_iadd hx hb dL_law_602 ?_
        rw [show (nI i) + 3 = nI (i + 3) from nI_add i 3]
        refine va_sld hx hb hX hbl hbA hS (vp_in_nI (by omega) (by omega)) dL_law_603 ?_
        rw [show (nI (i + 3)).toNatClampNeg = i + 3 from nI_clamp (by omega)]
        refine g_MVi (As := [.int (nI 1), .int (nI k), .int (xs (i + 3))]) (rest := []) ⟨hx, hb, hml, hown, hts⟩ (mt_X2_insert_2 l dC dI cA H.size y0 q1 q2 q3 q4 q5 rn tv sf lf mn rf nf ct il gf (V2 L0 L1) 1 k (xs (i + 3)) hW (by omega) hrn hbad (show k ≤ L1.length from by omega)) (cwV 3 hts gL_law_X2_insert rfl rfl rfl hdX2_insert ⟨Nat.le_of_ble_eq_true rfl, Nat.le_of_ble_eq_true rfl⟩) hP hK hD hS hA [9, 10, 11, 12, 13, 14] (by decide) rfl (va_recv hK hP (ci := 2) (q0 := 9) rfl rfl) rfl hl.1 rfl (Nat.le_of_ble_eq_true rfl) dL_law_604 hc1 hs1 (fun u9 => [(x0, .inr (1, [.ref r0, .ref r1, .ref r2, .ref r3, .int (nI rn)])), (r0, .inr (0, [.ref a0, .int (nI L0.length)])), (a0, .inl (cA, (100, .inl f0))), (r1, .inr (0, [.ref a1, .int (nI L1.length)])), (a1, .inl (cA, (100, .inl f1))), (r2, .inr (0, [.ref a2, .int n2])), (a2, .inl (cA, (100, .inl f2))), (r3, .inr (0, [.ref a3, .int n3])), (a3, .inl (cA, (100, .inl f3))), (y0, .inr (2, [.int 2, .int (nI rn), .ref q1, .ref q2, .int mn, .ref q3, .ref q4, .int ct, .int il, .ref q5])), (q1, .inl (cA, (2, .inl sf))), (q2, .inl (cA, (60, .inl lf))), (q3, .inl (cA, (320, .inl rf))), (q4, .inl (cA, (320, .inl nf))), (q5, .inl (cA, (6, .inl gf))), (o, .inl (cL, (1, .inr (.inl fo))))]) (fun _ => rfl) (fun _ => rfl) (fun u H locs hw_2 hP hD hS => ?_)
        have hw_2 : True := hw_2
        have hP : va_P (dC, dI) vwCl [(x0, .inr (1, [.ref r0, .ref r1, .ref r2, .ref r3, .int (nI rn)])), (r0, .inr (0, [.ref a0, .int (nI L0.length)])), (a0, .inl (cA, (100, .inl f0))), (r1, .inr (0, [.ref a1, .int (nI L1.length)])), (a1, .inl (cA, (100, .inl f1))), (r2, .inr (0, [.ref a2, .int n2])), (a2, .inl (cA, (100, .inl f2))), (r3, .inr (0, [.ref a3, .int n3])), (a3, .inl (cA, (100, .inl f3))), (y0, .inr (2, [.int 2, .int (nI rn), .ref q1, .ref q2, .int mn, .ref q3, .ref q4, .int ct, .int il, .ref q5])), (q1, .inl (cA, (2, .inl sf))), (q2, .inl (cA, (60, .inl lf))), (q3, .inl (cA, (320, .inl rf))), (q4, .inl (cA, (320, .inl nf))), (q5, .inl (cA, (6, .inl gf))), (o, .inl (cL, (1, .inr (.inl fo))))] H := hP
        have hD : va_D A [(x0, .inr (1, [.ref r0, .ref r1, .ref r2, .ref r3, .int (nI rn)])), (r0, .inr (0, [.ref a0, .int (nI L0.length)])), (a0, .inl (cA, (100, .inl f0))), (r1, .inr (0, [.ref a1, .int (nI L1.length)])), (a1, .inl (cA, (100, .inl f1))), (r2, .inr (0, [.ref a2, .int n2])), (a2, .inl (cA, (100, .inl f2))), (r3, .inr (0, [.ref a3, .int n3])), (a3, .inl (cA, (100, .inl f3))), (y0, .inr (2, [.int 2, .int (nI rn), .ref q1, .ref q2, .int mn, .ref q3, .ref q4, .int ct, .int il, .ref q5])), (q1, .inl (cA, (2, .inl sf))), (q2, .inl (cA, (60, .inl lf))), (q3, .inl (cA, (320, .inl rf))), (q4, .inl (cA, (320, .inl nf))), (q5, .inl (cA, (6, .inl gf))), (o, .inl (cL, (1, .inr (.inl fo))))] := hD
        refine lv_istore (lv' := [(6, .int 0), (5, .int 2), (4, .int (nI i)), (3, .ref o), (2, .ref y0), (1, .ref x0), (0, .ref b)]) hx hb dL_law_607 hl (by decide) rfl (fun ls hl => ?_)
        refine lv_aload_n hx hb dL_law_609 rfl (lv_at hl 4 rfl) ?_
        refine g_RVi (As := []) (rest := []) ⟨hx, hb, hml, hown, hts⟩ (mt_X2_thrown l dC dI cA H.size y0 q1 q2 q3 q4 q5 rn 2 sf lf mn rf nf ct il gf) (cwV 0 hts gL_law_X2_thrown rfl rfl rfl hdX2_thrown ⟨Nat.le_of_ble_eq_true rfl, Nat.le_of_ble_eq_true rfl⟩) hP hK hD [9, 10, 11, 12, 13, 14] (by decide) rfl (va_recv hK hP (ci := 2) (q0 := 9) rfl rfl) rfl hl.1 rfl (Nat.le_of_ble_eq_true rfl) dL_law_610 hc1 hs1 ?_
        refine lv_iload hx hb dL_law_613 (lv_at hl 1 rfl) ?_
        refine lv_icmp_eq (tgt := 620) hx hb dL_law_615 (by decide) (fun c615 => ?_) (fun c615 => ?_)
        · refine lv_iload hx hb dL_law_620 (lv_at hl 1 rfl) ?_
          refine lv_if_ne (tgt := 637) hx hb dL_law_622 (by decide) (fun c622 => ?_) (fun c622 => ?_)
          · have c622 : ¬ 2 = 0 := g_neT 2 0 (by omega) (by omega) c622
            refine lv_goto (tgt := 1241) hx hb dL_law_637 (by decide) ?_
            exact kk rn L0 L1 _ _ _ _ _ ⟨f0, f1, n2, f2, n3, f3, 2, sf, lf, mn, rf, nf, ct, il, gf, fo, hP, hD, hS, hR0, hR1, hl0, hl1, hrn, hr6, hk0, hk1, hW⟩ (by omega) (by omega) (lv_sub hl [2, 3, 4, 5, 6] rfl)
          · exact absurd c622 (by decide)
        · exact absurd (by decide) c615
      · by_cases hk2 : L1.length + 2 ≤ 30
        · refine lv_aload_n hx hb dL_law_560 rfl (lv_at hl 3 rfl) ?_
          refine lv_aload_n hx hb dL_law_561 rfl (lv_at hl 4 rfl) ?_
          refine lv_iload hx hb dL_law_562 (lv_at hl 0 rfl) ?_
          refine lv_iconst (v := 1) hx hb dL_law_564 (by decide) ?_
          refine lv_iadd hx hb dL_law_565 ?_
          rw [show (nI i) + 1 = nI (i + 1) from nI_add i 1]
          refine va_sld hx hb hX hbl hbA hS (vp_in_nI (by omega) (by omega)) dL_law_566 ?_
          rw [show (nI (i + 1)).toNatClampNeg = i + 1 from nI_clamp (by omega)]
          rw [h1]
          refine lv_aload_n hx hb dL_law_567 rfl (lv_at hl 4 rfl) ?_
          refine lv_iload hx hb dL_law_568 (lv_at hl 0 rfl) ?_
          refine lv_iconst (v := 2) hx hb dL_law_570 (by decide) ?_
          refine lv_iadd hx hb dL_law_571 ?_
          rw [show (nI i) + 2 = nI (i + 2) from nI_add i 2]
          refine va_sld hx hb hX hbl hbA hS (vp_in_nI (by omega) (by omega)) dL_law_572 ?_
          rw [show (nI (i + 2)).toNatClampNeg = i + 2 from nI_clamp (by omega)]
          rw [h2]
          refine lv_aload_n hx hb dL_law_573 rfl (lv_at hl 4 rfl) ?_
          refine lv_iload hx hb dL_law_574 (lv_at hl 0 rfl) ?_
          refine lv_iconst (v := 3) hx hb dL_law_576 (by decide) ?_
          refine lv_iadd hx hb dL_law_577 ?_
          rw [show (nI i) + 3 = nI (i + 3) from nI_add i 3]
          refine va_sld hx hb hX hbl hbA hS (vp_in_nI (by omega) (by omega)) dL_law_578 ?_
          rw [show (nI (i + 3)).toNatClampNeg = i + 3 from nI_clamp (by omega)]
          refine lv_aload_n hx hb dL_law_579 rfl (lv_at hl 1 rfl) ?_
          refine g_LS (As := [.ref x0, .int (nI 1), .int (nI k), .int (xs (i + 3)), .ref o]) (rest := []) ⟨hx, hb, hml, hown, hts⟩ (mt_L_insert1 l htr dC dI cA cL H.size x0 r0 r1 r2 r3 rn a1 L1 f1 k (xs (i + 3)) o fo hR1 (show k ≤ L1.length from by omega) h0 hh1 hh2 hk2) (vx_cwSW 5 hts gL_law_L_insert rfl rfl rfl hdL_insert ⟨Nat.le_of_ble_eq_true rfl, Nat.le_of_ble_eq_true rfl⟩) hP hKl hD hS hA hZ [0, 3, 4, 15] (by decide) rfl rfl hl.1 rfl (Nat.le_of_ble_eq_true rfl) dL_law_580 hc0 hs0 (fun u9 => [(x0, .inr (1, [.ref r0, .ref r1, .ref r2, .ref r3, .int (nI rn)])), (r0, .inr (0, [.ref a0, .int (nI L0.length)])), (a0, .inl (cA, (100, .inl f0))), (r1, .inr (0, [.ref a1, .int (nI ((insL (insL L1 k (-(xs (i + 3)))) k (xs (i + 3))).length))])), (a1, .inl (cA, (100, .inl u9))), (r2, .inr (0, [.ref a2, .int n2])), (a2, .inl (cA, (100, .inl f2))), (r3, .inr (0, [.ref a3, .int n3])), (a3, .inl (cA, (100, .inl f3))), (y0, .inr (2, [.int tv, .int (nI rn), .ref q1, .ref q2, .int mn, .ref q3, .ref q4, .int ct, .int il, .ref q5])), (q1, .inl (cA, (2, .inl sf))), (q2, .inl (cA, (60, .inl lf))), (q3, .inl (cA, (320, .inl rf))), (q4, .inl (cA, (320, .inl nf))), (q5, .inl (cA, (6, .inl gf))), (o, .inl (cL, (1, .inr (.inl (vp_updL fo 0 (nI ((insL (insL L1 k (-(xs (i + 3)))) k (xs (i + 3))).length)).toInt64)))))]) (fun _ => rfl) (fun _ => rfl) (fun u H locs hw_2 hP hD hS => ?_)
          obtain ⟨f1_1, rfl⟩ : ∃ z, z = u := ⟨_, rfl⟩
          have hw_2 : RI (insL (insL L1 k (-(xs (i + 3)))) k (xs (i + 3))) f1_1 := hw_2
          have hP : va_P (dC, dI) vwCl [(x0, .inr (1, [.ref r0, .ref r1, .ref r2, .ref r3, .int (nI rn)])), (r0, .inr (0, [.ref a0, .int (nI L0.length)])), (a0, .inl (cA, (100, .inl f0))), (r1, .inr (0, [.ref a1, .int (nI ((insL (insL L1 k (-(xs (i + 3)))) k (xs (i + 3))).length))])), (a1, .inl (cA, (100, .inl f1_1))), (r2, .inr (0, [.ref a2, .int n2])), (a2, .inl (cA, (100, .inl f2))), (r3, .inr (0, [.ref a3, .int n3])), (a3, .inl (cA, (100, .inl f3))), (y0, .inr (2, [.int tv, .int (nI rn), .ref q1, .ref q2, .int mn, .ref q3, .ref q4, .int ct, .int il, .ref q5])), (q1, .inl (cA, (2, .inl sf))), (q2, .inl (cA, (60, .inl lf))), (q3, .inl (cA, (320, .inl rf))), (q4, .inl (cA, (320, .inl nf))), (q5, .inl (cA, (6, .inl gf))), (o, .inl (cL, (1, .inr (.inl (vp_updL fo 0 (nI ((insL (insL L1 k (-(xs (i + 3)))) k (xs (i + 3))).length)).toInt64)))))] H := hP
          have hD : va_D A [(x0, .inr (1, [.ref r0, .ref r1, .ref r2, .ref r3, .int (nI rn)])), (r0, .inr (0, [.ref a0, .int (nI L0.length)])), (a0, .inl (cA, (100, .inl f0))), (r1, .inr (0, [.ref a1, .int (nI ((insL (insL L1 k (-(xs (i + 3)))) k (xs (i + 3))).length))])), (a1, .inl (cA, (100, .inl f1_1))), (r2, .inr (0, [.ref a2, .int n2])), (a2, .inl (cA, (100, .inl f2))), (r3, .inr (0, [.ref a3, .int n3])), (a3, .inl (cA, (100, .inl f3))), (y0, .inr (2, [.int tv, .int (nI rn), .ref q1, .ref q2, .int mn, .ref q3, .ref q4, .int ct, .int il, .ref q5])), (q1, .inl (cA, (2, .inl sf))), (q2, .inl (cA, (60, .inl lf))), (q3, .inl (cA, (320, .inl rf))), (q4, .inl (cA, (320, .inl nf))), (q5, .inl (cA, (6, .inl gf))), (o, .inl (cL, (1, .inr (.inl (vp_updL fo 0 (nI ((insL (insL L1 k (-(xs (i + 3)))) k (xs (i + 3))).length)).toInt64)))))] := hD
          refine lv_istore (lv' := [(5, .int 0), (4, .int (nI i)), (3, .ref o), (2, .ref y0), (1, .ref x0), (0, .ref b)]) hx hb dL_law_583 hl (by decide) rfl (fun ls hl => ?_)
          refine lv_aload_n hx hb dL_law_585 rfl (lv_at hl 3 rfl) ?_
          refine lv_aload_n hx hb dL_law_586 rfl (lv_at hl 5 rfl) ?_
          refine lv_iload hx hb dL_law_587 (lv_at hl 1 rfl) ?_
          refine lv_iconst (v := 1) hx hb dL_law_589 (by decide) ?_
          refine lv_iadd hx hb dL_law_590 ?_
          rw [show (nI i) + 1 = nI (i + 1) from nI_add i 1]
          refine va_sld hx hb hX hbl hbA hS (vp_in_nI (by omega) (by omega)) dL_law_591 ?_
          rw [show (nI (i + 1)).toNatClampNeg = i + 1 from nI_clamp (by omega)]
          rw [h1]
          refine lv_aload_n hx hb dL_law_592 rfl (lv_at hl 5 rfl) ?_
          refine lv_iload hx hb dL_law_593 (lv_at hl 1 rfl) ?_
          refine lv_iconst (v := 2) hx hb dL_law_595 (by decide) ?_
          refine lv_iadd hx hb dL_law_596 ?_
          rw [show (nI i) + 2 = nI (i + 2) from nI_add i 2]
          refine va_sld hx hb hX hbl hbA hS (vp_in_nI (by omega) (by omega)) dL_law_597 ?_
          rw [show (nI (i + 2)).toNatClampNeg = i + 2 from nI_clamp (by omega)]
          rw [h2]
          refine lv_aload_n hx hb dL_law_598 rfl (lv_at hl 5 rfl) ?_
          refine lv_iload hx hb dL_law_599 (lv_at hl 1 rfl) ?_
          refine lv_iconst (v := 3) hx hb dL_law_601 (by decide) ?_
          refine lv_iadd hx hb dL_law_602 ?_
          rw [show (nI i) + 3 = nI (i + 3) from nI_add i 3]
          refine va_sld hx hb hX hbl hbA hS (vp_in_nI (by omega) (by omega)) dL_law_603 ?_
          rw [show (nI (i + 3)).toNatClampNeg = i + 3 from nI_clamp (by omega)]
          refine g_MVi (As := [.int (nI 1), .int (nI k), .int (xs (i + 3))]) (rest := []) ⟨hx, hb, hml, hown, hts⟩ (mt_X2_insert l dC dI cA H.size y0 q1 q2 q3 q4 q5 rn tv sf lf mn rf nf ct il gf (V2 L0 L1) 1 k (xs (i + 3)) hW (by omega) hrn h0 hh1 hh2 (show k ≤ L1.length from by omega) hk2) (cwV 3 hts gL_law_X2_insert rfl rfl rfl hdX2_insert ⟨Nat.le_of_ble_eq_true rfl, Nat.le_of_ble_eq_true rfl⟩) hP hK hD hS hA [9, 10, 11, 12, 13, 14] (by decide) rfl (va_recv hK hP (ci := 2) (q0 := 9) rfl rfl) rfl hl.1 rfl (Nat.le_of_ble_eq_true rfl) dL_law_604 hc0 hs0 (fun u9 => [(x0, .inr (1, [.ref r0, .ref r1, .ref r2, .ref r3, .int (nI rn)])), (r0, .inr (0, [.ref a0, .int (nI L0.length)])), (a0, .inl (cA, (100, .inl f0))), (r1, .inr (0, [.ref a1, .int (nI ((insL (insL L1 k (-(xs (i + 3)))) k (xs (i + 3))).length))])), (a1, .inl (cA, (100, .inl f1_1))), (r2, .inr (0, [.ref a2, .int n2])), (a2, .inl (cA, (100, .inl f2))), (r3, .inr (0, [.ref a3, .int n3])), (a3, .inl (cA, (100, .inl f3))), (y0, .inr (2, [.int 0, .int (nI rn), .ref q1, .ref q2, .int mn, .ref q3, .ref q4, .int ct, .int il, .ref q5])), (q1, .inl (cA, (2, .inl u9.1))), (q2, .inl (cA, (60, .inl u9.2))), (q3, .inl (cA, (320, .inl rf))), (q4, .inl (cA, (320, .inl nf))), (q5, .inl (cA, (6, .inl gf))), (o, .inl (cL, (1, .inr (.inl (vp_updL fo 0 (nI ((insL (insL L1 k (-(xs (i + 3)))) k (xs (i + 3))).length)).toInt64)))))]) (fun _ => rfl) (fun _ => rfl) (fun u H locs hw_5 hP hD hS => ?_)
          obtain ⟨s1_3, l1_4⟩ := u
          have hw_5 : MW (upW (V2 L0 L1) 1 (insL (insL ((V2 L0 L1) 1) k (-(xs (i + 3)))) k (xs (i + 3)))) s1_3 l1_4 := hw_5
          have hP : va_P (dC, dI) vwCl [(x0, .inr (1, [.ref r0, .ref r1, .ref r2, .ref r3, .int (nI rn)])), (r0, .inr (0, [.ref a0, .int (nI L0.length)])), (a0, .inl (cA, (100, .inl f0))), (r1, .inr (0, [.ref a1, .int (nI ((insL (insL L1 k (-(xs (i + 3)))) k (xs (i + 3))).length))])), (a1, .inl (cA, (100, .inl f1_1))), (r2, .inr (0, [.ref a2, .int n2])), (a2, .inl (cA, (100, .inl f2))), (r3, .inr (0, [.ref a3, .int n3])), (a3, .inl (cA, (100, .inl f3))), (y0, .inr (2, [.int 0, .int (nI rn), .ref q1, .ref q2, .int mn, .ref q3, .ref q4, .int ct, .int il, .ref q5])), (q1, .inl (cA, (2, .inl s1_3))), (q2, .inl (cA, (60, .inl l1_4))), (q3, .inl (cA, (320, .inl rf))), (q4, .inl (cA, (320, .inl nf))), (q5, .inl (cA, (6, .inl gf))), (o, .inl (cL, (1, .inr (.inl (vp_updL fo 0 (nI ((insL (insL L1 k (-(xs (i + 3)))) k (xs (i + 3))).length)).toInt64)))))] H := hP
          have hD : va_D A [(x0, .inr (1, [.ref r0, .ref r1, .ref r2, .ref r3, .int (nI rn)])), (r0, .inr (0, [.ref a0, .int (nI L0.length)])), (a0, .inl (cA, (100, .inl f0))), (r1, .inr (0, [.ref a1, .int (nI ((insL (insL L1 k (-(xs (i + 3)))) k (xs (i + 3))).length))])), (a1, .inl (cA, (100, .inl f1_1))), (r2, .inr (0, [.ref a2, .int n2])), (a2, .inl (cA, (100, .inl f2))), (r3, .inr (0, [.ref a3, .int n3])), (a3, .inl (cA, (100, .inl f3))), (y0, .inr (2, [.int 0, .int (nI rn), .ref q1, .ref q2, .int mn, .ref q3, .ref q4, .int ct, .int il, .ref q5])), (q1, .inl (cA, (2, .inl s1_3))), (q2, .inl (cA, (60, .inl l1_4))), (q3, .inl (cA, (320, .inl rf))), (q4, .inl (cA, (320, .inl nf))), (q5, .inl (cA, (6, .inl gf))), (o, .inl (cL, (1, .inr (.inl (vp_updL fo 0 (nI ((insL (insL L1 k (-(xs (i + 3)))) k (xs (i + 3))).length)).toInt64)))))] := hD
          refine lv_istore (lv' := [(6, .int (nI (((V2 L0 L1) 1).length + 2))), (5, .int 0), (4, .int (nI i)), (3, .ref o), (2, .ref y0), (1, .ref x0), (0, .ref b)]) hx hb dL_law_607 hl (by decide) rfl (fun ls hl => ?_)
          refine lv_aload_n hx hb dL_law_609 rfl (lv_at hl 4 rfl) ?_
          refine g_RVi (As := []) (rest := []) ⟨hx, hb, hml, hown, hts⟩ (mt_X2_thrown l dC dI cA H.size y0 q1 q2 q3 q4 q5 rn 0 s1_3 l1_4 mn rf nf ct il gf) (cwV 0 hts gL_law_X2_thrown rfl rfl rfl hdX2_thrown ⟨Nat.le_of_ble_eq_true rfl, Nat.le_of_ble_eq_true rfl⟩) hP hK hD [9, 10, 11, 12, 13, 14] (by decide) rfl (va_recv hK hP (ci := 2) (q0 := 9) rfl rfl) rfl hl.1 rfl (Nat.le_of_ble_eq_true rfl) dL_law_610 hc0 hs0 ?_
          refine lv_iload hx hb dL_law_613 (lv_at hl 1 rfl) ?_
          refine lv_icmp_eq (tgt := 620) hx hb dL_law_615 (by decide) (fun c615 => ?_) (fun c615 => ?_)
          · refine lv_iload hx hb dL_law_620 (lv_at hl 1 rfl) ?_
            refine lv_if_ne (tgt := 637) hx hb dL_law_622 (by decide) (fun c622 => ?_) (fun c622 => ?_)
            · exact absurd (by decide) c622
            · have c622 : 0 = 0 := g_neF 0 0 (by omega) (by omega) c622
              refine lv_aload_n hx hb dL_law_625 rfl (lv_at hl 3 rfl) ?_
              refine lv_iconst (v := 0) hx hb dL_law_626 (by decide) ?_
              refine va_lald hx hb hKl hP 15 1 rfl rfl (vp_in_nI (n := 0) (by omega) (by decide)) dL_law_627 ?_
              rw [show (0 : Int32).toNatClampNeg = 0 from by decide, pk_uLs]
              refine lv_iload hx hb dL_law_628 (lv_at hl 0 rfl) ?_
              refine lv_i2l (v := (nI (((V2 L0 L1) 1).length + 2)).toInt64) hx hb dL_law_630 rfl ?_
              refine W.lcmp hx hb dL_law_631 ?_
              rw [show lg_cmp ((nI ((insL (insL L1 k (-(xs (i + 3)))) k (xs (i + 3))).length)).toInt64) ((nI (((V2 L0 L1) 1).length + 2)).toInt64) = 0 from (lg_cmp_eq _ _).mpr (by rw [insL_len (by rw [insL_len (show k ≤ L1.length by omega)]; omega), insL_len (show k ≤ L1.length by omega)]; rfl)]
              refine lv_if_eq (tgt := 637) hx hb dL_law_632 (by decide) (fun c632 => ?_) (fun c632 => ?_)
              · have c632 : 0 = 0 := g_eqT 0 0 (by omega) (by omega) c632
                refine lv_goto (tgt := 1241) hx hb dL_law_637 (by decide) ?_
                exact kk rn L0 (insL (insL L1 k (-xs (i + 3))) k (xs (i + 3))) _ _ _ _ _ ⟨f0, f1_1, n2, f2, n3, f3, 0, s1_3, l1_4, mn, rf, nf, ct, il, gf, vp_updL fo 0 (nI ((insL (insL L1 k (-(xs (i + 3)))) k (xs (i + 3))).length)).toInt64, hP, hD, hS, hR0, hw_2, hl0, by rw [insL_len (by rw [insL_len (show k ≤ L1.length by omega)]; omega), insL_len (show k ≤ L1.length by omega)]; omega, hrn, hr6, hk0, okL_ins (okL_ins hk1 (ok_neg rn hrn _ (let_ok hrn h0 hh1 hh2)).1) (let_ok hrn h0 hh1 hh2), MW_c1 hw_5⟩ (by omega) (by omega) (lv_sub hl [2, 3, 4, 5, 6] rfl)
              · exact absurd (by decide) c632
          · exact absurd (by decide) c615
        · refine lv_aload_n hx hb dL_law_560 rfl (lv_at hl 3 rfl) ?_
          refine lv_aload_n hx hb dL_law_561 rfl (lv_at hl 4 rfl) ?_
          refine lv_iload hx hb dL_law_562 (lv_at hl 0 rfl) ?_
          refine lv_iconst (v := 1) hx hb dL_law_564 (by decide) ?_
          refine lv_iadd hx hb dL_law_565 ?_
          rw [show (nI i) + 1 = nI (i + 1) from nI_add i 1]
          refine va_sld hx hb hX hbl hbA hS (vp_in_nI (by omega) (by omega)) dL_law_566 ?_
          rw [show (nI (i + 1)).toNatClampNeg = i + 1 from nI_clamp (by omega)]
          rw [h1]
          refine lv_aload_n hx hb dL_law_567 rfl (lv_at hl 4 rfl) ?_
          refine lv_iload hx hb dL_law_568 (lv_at hl 0 rfl) ?_
          refine lv_iconst (v := 2) hx hb dL_law_570 (by decide) ?_
          refine lv_iadd hx hb dL_law_571 ?_
          rw [show (nI i) + 2 = nI (i + 2) from nI_add i 2]
          refine va_sld hx hb hX hbl hbA hS (vp_in_nI (by omega) (by omega)) dL_law_572 ?_
          rw [show (nI (i + 2)).toNatClampNeg = i + 2 from nI_clamp (by omega)]
          rw [h2]
          refine lv_aload_n hx hb dL_law_573 rfl (lv_at hl 4 rfl) ?_
          refine lv_iload hx hb dL_law_574 (lv_at hl 0 rfl) ?_
          refine lv_iconst (v := 3) hx hb dL_law_576 (by decide) ?_
          refine lv_iadd hx hb dL_law_577 ?_
          rw [show (nI i) + 3 = nI (i + 3) from nI_add i 3]
          refine va_sld hx hb hX hbl hbA hS (vp_in_nI (by omega) (by omega)) dL_law_578 ?_
          rw [show (nI (i + 3)).toNatClampNeg = i + 3 from nI_clamp (by omega)]
          refine lv_aload_n hx hb dL_law_579 rfl (lv_at hl 1 rfl) ?_
          refine g_LS (As := [.ref x0, .int (nI 1), .int (nI k), .int (xs (i + 3)), .ref o]) (rest := []) ⟨hx, hb, hml, hown, hts⟩ (mt_L_insert_3_1 l htr dC dI cA cL H.size x0 r0 r1 r2 r3 rn a1 L1 f1 k (xs (i + 3)) o fo hR1 (show k ≤ L1.length from by omega) h0 hh1 hh2 (by omega)) (vx_cwSW 5 hts gL_law_L_insert rfl rfl rfl hdL_insert ⟨Nat.le_of_ble_eq_true rfl, Nat.le_of_ble_eq_true rfl⟩) hP hKl hD hS hA hZ [0, 3, 4, 15] (by decide) rfl rfl hl.1 rfl (Nat.le_of_ble_eq_true rfl) dL_law_580 hc1 hs1 (fun u9 => [(x0, .inr (1, [.ref r0, .ref r1, .ref r2, .ref r3, .int (nI rn)])), (r0, .inr (0, [.ref a0, .int (nI L0.length)])), (a0, .inl (cA, (100, .inl f0))), (r1, .inr (0, [.ref a1, .int (nI L1.length)])), (a1, .inl (cA, (100, .inl f1))), (r2, .inr (0, [.ref a2, .int n2])), (a2, .inl (cA, (100, .inl f2))), (r3, .inr (0, [.ref a3, .int n3])), (a3, .inl (cA, (100, .inl f3))), (y0, .inr (2, [.int tv, .int (nI rn), .ref q1, .ref q2, .int mn, .ref q3, .ref q4, .int ct, .int il, .ref q5])), (q1, .inl (cA, (2, .inl sf))), (q2, .inl (cA, (60, .inl lf))), (q3, .inl (cA, (320, .inl rf))), (q4, .inl (cA, (320, .inl nf))), (q5, .inl (cA, (6, .inl gf))), (o, .inl (cL, (1, .inr (.inl fo))))]) (fun _ => rfl) (fun _ => rfl) (fun u H locs hw_1 hP hD hS => ?_)
          have hP : va_P (dC, dI) vwCl [(x0, .inr (1, [.ref r0, .ref r1, .ref r2, .ref r3, .int (nI rn)])), (r0, .inr (0, [.ref a0, .int (nI L0.length)])), (a0, .inl (cA, (100, .inl f0))), (r1, .inr (0, [.ref a1, .int (nI L1.length)])), (a1, .inl (cA, (100, .inl f1))), (r2, .inr (0, [.ref a2, .int n2])), (a2, .inl (cA, (100, .inl f2))), (r3, .inr (0, [.ref a3, .int n3])), (a3, .inl (cA, (100, .inl f3))), (y0, .inr (2, [.int tv, .int (nI rn), .ref q1, .ref q2, .int mn, .ref q3, .ref q4, .int ct, .int il, .ref q5])), (q1, .inl (cA, (2, .inl sf))), (q2, .inl (cA, (60, .inl lf))), (q3, .inl (cA, (320, .inl rf))), (q4, .inl (cA, (320, .inl nf))), (q5, .inl (cA, (6, .inl gf))), (o, .inl (cL, (1, .inr (.inl fo))))] H := hP
          have hD : va_D A [(x0, .inr (1, [.ref r0, .ref r1, .ref r2, .ref r3, .int (nI rn)])), (r0, .inr (0, [.ref a0, .int (nI L0.length)])), (a0, .inl (cA, (100, .inl f0))), (r1, .inr (0, [.ref a1, .int (nI L1.length)])), (a1, .inl (cA, (100, .inl f1))), (r2, .inr (0, [.ref a2, .int n2])), (a2, .inl (cA, (100, .inl f2))), (r3, .inr (0, [.ref a3, .int n3])), (a3, .inl (cA, (100, .inl f3))), (y0, .inr (2, [.int tv, .int (nI rn), .ref q1, .ref q2, .int mn, .ref q3, .ref q4, .int ct, .int il, .ref q5])), (q1, .inl (cA, (2, .inl sf))), (q2, .inl (cA, (60, .inl lf))), (q3, .inl (cA, (320, .inl rf))), (q4, .inl (cA, (320, .inl nf))), (q5, .inl (cA, (6, .inl gf))), (o, .inl (cL, (1, .inr (.inl fo))))] := hD
          refine lv_istore (lv' := [(5, .int 3), (4, .int (nI i)), (3, .ref o), (2, .ref y0), (1, .ref x0), (0, .ref b)]) hx hb dL_law_583 hl (by decide) rfl (fun ls hl => ?_)
          refine lv_aload_n hx hb dL_law_585 rfl (lv_at hl 3 rfl) ?_
          refine lv_aload_n hx hb dL_law_586 rfl (lv_at hl 5 rfl) ?_
          refine lv_iload hx hb dL_law_587 (lv_at hl 1 rfl) ?_
          refine lv_iconst (v := 1) hx hb dL_law_589 (by decide) ?_
          refine lv_iadd hx hb dL_law_590 ?_
          rw [show (nI i) + 1 = nI (i + 1) from nI_add i 1]
          refine va_sld hx hb hX hbl hbA hS (vp_in_nI (by omega) (by omega)) dL_law_591 ?_
          rw [show (nI (i + 1)).toNatClampNeg = i + 1 from nI_clamp (by omega)]
          rw [h1]
          refine lv_aload_n hx hb dL_law_592 rfl (lv_at hl 5 rfl) ?_
          refine lv_iload hx hb dL_law_593 (lv_at hl 1 rfl) ?_
          refine lv_iconst (v := 2) hx hb dL_law_595 (by decide) ?_
          refine lv_iadd hx hb dL_law_596 ?_
          rw [show (nI i) + 2 = nI (i + 2) from nI_add i 2]
          refine va_sld hx hb hX hbl hbA hS (vp_in_nI (by omega) (by omega)) dL_law_597 ?_
          rw [show (nI (i + 2)).toNatClampNeg = i + 2 from nI_clamp (by omega)]
          rw [h2]
          refine lv_aload_n hx hb dL_law_598 rfl (lv_at hl 5 rfl) ?_
          refine lv_iload hx hb dL_law_599 (lv_at hl 1 rfl) ?_
          refine lv_iconst (v := 3) hx hb dL_law_601 (by decide) ?_
          refine lv_iadd hx hb dL_law_602 ?_
          rw [show (nI i) + 3 = nI (i + 3) from nI_add i 3]
          refine va_sld hx hb hX hbl hbA hS (vp_in_nI (by omega) (by omega)) dL_law_603 ?_
          rw [show (nI (i + 3)).toNatClampNeg = i + 3 from nI_clamp (by omega)]
          refine g_MVi (As := [.int (nI 1), .int (nI k), .int (xs (i + 3))]) (rest := []) ⟨hx, hb, hml, hown, hts⟩ (mt_X2_insert_3 l dC dI cA H.size y0 q1 q2 q3 q4 q5 rn tv sf lf mn rf nf ct il gf (V2 L0 L1) 1 k (xs (i + 3)) hW (by omega) hrn h0 hh1 hh2 (show k ≤ L1.length from by omega) (show 30 < L1.length + 2 from by omega)) (cwV 3 hts gL_law_X2_insert rfl rfl rfl hdX2_insert ⟨Nat.le_of_ble_eq_true rfl, Nat.le_of_ble_eq_true rfl⟩) hP hK hD hS hA [9, 10, 11, 12, 13, 14] (by decide) rfl (va_recv hK hP (ci := 2) (q0 := 9) rfl rfl) rfl hl.1 rfl (Nat.le_of_ble_eq_true rfl) dL_law_604 hc1 hs1 (fun u9 => [(x0, .inr (1, [.ref r0, .ref r1, .ref r2, .ref r3, .int (nI rn)])), (r0, .inr (0, [.ref a0, .int (nI L0.length)])), (a0, .inl (cA, (100, .inl f0))), (r1, .inr (0, [.ref a1, .int (nI L1.length)])), (a1, .inl (cA, (100, .inl f1))), (r2, .inr (0, [.ref a2, .int n2])), (a2, .inl (cA, (100, .inl f2))), (r3, .inr (0, [.ref a3, .int n3])), (a3, .inl (cA, (100, .inl f3))), (y0, .inr (2, [.int 3, .int (nI rn), .ref q1, .ref q2, .int mn, .ref q3, .ref q4, .int ct, .int il, .ref q5])), (q1, .inl (cA, (2, .inl sf))), (q2, .inl (cA, (60, .inl lf))), (q3, .inl (cA, (320, .inl rf))), (q4, .inl (cA, (320, .inl nf))), (q5, .inl (cA, (6, .inl gf))), (o, .inl (cL, (1, .inr (.inl fo))))]) (fun _ => rfl) (fun _ => rfl) (fun u H locs hw_2 hP hD hS => ?_)
          have hw_2 : True := hw_2
          have hP : va_P (dC, dI) vwCl [(x0, .inr (1, [.ref r0, .ref r1, .ref r2, .ref r3, .int (nI rn)])), (r0, .inr (0, [.ref a0, .int (nI L0.length)])), (a0, .inl (cA, (100, .inl f0))), (r1, .inr (0, [.ref a1, .int (nI L1.length)])), (a1, .inl (cA, (100, .inl f1))), (r2, .inr (0, [.ref a2, .int n2])), (a2, .inl (cA, (100, .inl f2))), (r3, .inr (0, [.ref a3, .int n3])), (a3, .inl (cA, (100, .inl f3))), (y0, .inr (2, [.int 3, .int (nI rn), .ref q1, .ref q2, .int mn, .ref q3, .ref q4, .int ct, .int il, .ref q5])), (q1, .inl (cA, (2, .inl sf))), (q2, .inl (cA, (60, .inl lf))), (q3, .inl (cA, (320, .inl rf))), (q4, .inl (cA, (320, .inl nf))), (q5, .inl (cA, (6, .inl gf))), (o, .inl (cL, (1, .inr (.inl fo))))] H := hP
          have hD : va_D A [(x0, .inr (1, [.ref r0, .ref r1, .ref r2, .ref r3, .int (nI rn)])), (r0, .inr (0, [.ref a0, .int (nI L0.length)])), (a0, .inl (cA, (100, .inl f0))), (r1, .inr (0, [.ref a1, .int (nI L1.length)])), (a1, .inl (cA, (100, .inl f1))), (r2, .inr (0, [.ref a2, .int n2])), (a2, .inl (cA, (100, .inl f2))), (r3, .inr (0, [.ref a3, .int n3])), (a3, .inl (cA, (100, .inl f3))), (y0, .inr (2, [.int 3, .int (nI rn), .ref q1, .ref q2, .int mn, .ref q3, .ref q4, .int ct, .int il, .ref q5])), (q1, .inl (cA, (2, .inl sf))), (q2, .inl (cA, (60, .inl lf))), (q3, .inl (cA, (320, .inl rf))), (q4, .inl (cA, (320, .inl nf))), (q5, .inl (cA, (6, .inl gf))), (o, .inl (cL, (1, .inr (.inl fo))))] := hD
          refine lv_istore (lv' := [(6, .int 0), (5, .int 3), (4, .int (nI i)), (3, .ref o), (2, .ref y0), (1, .ref x0), (0, .ref b)]) hx hb dL_law_607 hl (by decide) rfl (fun ls hl => ?_)
          refine lv_aload_n hx hb dL_law_609 rfl (lv_at hl 4 rfl) ?_
          refine g_RVi (As := []) (rest := []) ⟨hx, hb, hml, hown, hts⟩ (mt_X2_thrown l dC dI cA H.size y0 q1 q2 q3 q4 q5 rn 3 sf lf mn rf nf ct il gf) (cwV 0 hts gL_law_X2_thrown rfl rfl rfl hdX2_thrown ⟨Nat.le_of_ble_eq_true rfl, Nat.le_of_ble_eq_true rfl⟩) hP hK hD [9, 10, 11, 12, 13, 14] (by decide) rfl (va_recv hK hP (ci := 2) (q0 := 9) rfl rfl) rfl hl.1 rfl (Nat.le_of_ble_eq_true rfl) dL_law_610 hc1 hs1 ?_
          refine lv_iload hx hb dL_law_613 (lv_at hl 1 rfl) ?_
          refine lv_icmp_eq (tgt := 620) hx hb dL_law_615 (by decide) (fun c615 => ?_) (fun c615 => ?_)
          · refine lv_iload hx hb dL_law_620 (lv_at hl 1 rfl) ?_
            refine lv_if_ne (tgt := 637) hx hb dL_law_622 (by decide) (fun c622 => ?_) (fun c622 => ?_)
            · have c622 : ¬ 3 = 0 := g_neT 3 0 (by omega) (by omega) c622
              refine lv_goto (tgt := 1241) hx hb dL_law_637 (by decide) ?_
              exact kk rn L0 L1 _ _ _ _ _ ⟨f0, f1, n2, f2, n3, f3, 3, sf, lf, mn, rf, nf, ct, il, gf, fo, hP, hD, hS, hR0, hR1, hl0, hl1, hrn, hr6, hk0, hk1, hW⟩ (by omega) (by omega) (lv_sub hl [2, 3, 4, 5, 6] rfl)
            · exact absurd c622 (by decide)
          · exact absurd (by decide) c615

set_option maxHeartbeats 4000000 in
set_option maxRecDepth 100000 in
theorem lw_op_8 {p : Program} {l : Launch} {e : Env} {s : State} {m : MethodId} {below : List Frame} {meth : Method} {c : Code} {Q : State → Prop} {b L : Nat} {xs : Nat → Int32} {dC : Nat → ClassId} {dI : Nat → Nat → Nat} {cA cL : ClassId} {A : Nat → Prop} (E : lwE p l s m c b L xs dC dI cA cL A) {x0 r0 r1 r2 r3 a0 a1 a2 a3 y0 q1 q2 q3 q4 q5 o : Nat} {i : Nat} (hi : i + 4 ≤ L) {cells slots : Nat} (hC : cells + 1 ≤ 1053) (hS9 : slots + 6 ≤ 9402) {rn : Nat} {L0 L1 : List Int32} {H : Heap} {locs : List Loc} (hI : lwI dC dI cA cL A s.heap x0 r0 r1 r2 r3 a0 a1 a2 a3 y0 q1 q2 q3 q4 q5 o rn L0 L1 H locs) {ls : Array Slot} (hl : lv_has ls 9 [(4, .int (nI i)), (3, .ref o), (2, .ref y0), (1, .ref x0), (0, .ref b)])
    (kk : ∀ (rn : Nat) (L0 L1 : List Int32) (H : Heap) (locs : List Loc) (cells1 slots1 : Nat) (ls : Array Slot), lwI dC dI cA cL A s.heap x0 r0 r1 r2 r3 a0 a1 a2 a3 y0 q1 q2 q3 q4 q5 o rn L0 L1 H locs → cells1 ≤ cells + 1 → slots1 ≤ slots + 6 → lv_has ls 9 [(4, .int (nI i)), (3, .ref o), (2, .ref y0), (1, .ref x0), (0, .ref b)] → W p l e room_1 s m #[Value.ref b] below meth c H locs cells1 slots1 Q (F0 m 1241 ls [])) :
    W p l e room_1 s m #[Value.ref b] below meth c H locs cells slots Q (F0 m 640 ls []) := by
  obtain ⟨hx, hb, hml, hown, hts, hX, hbl, hbA, hA, htr, hKl, hZ, hL2⟩ := E
  obtain ⟨f0, f1, n2, f2, n3, f3, tv, sf, lf, mn, rf, nf, ct, il, gf, fo, hP, hD, hS, hR0, hR1, hl0, hl1, hrn, hr6, hk0, hk1, hW⟩ := hI
  have hK : va_K (dC, dI) vwCl [(cA, .int)] s := hKl.sub [0] rfl
  have hok := V2_ok hk0 hk1
  have hc0 : cells ≤ room_1.cells := (show cells ≤ 1053 from by omega)
  have hs0 : slots ≤ room_1.slots := (show slots ≤ 9402 from by omega)
  have hc1 : cells + 1 ≤ room_1.cells := hC
  have hs1 : slots + 6 ≤ room_1.slots := hS9
  rcases wd_ix (xs (i + 1)) with hbad | h1 | h1
  · refine lv_aload_n hx hb dL_law_640 rfl (lv_at hl 3 rfl) ?_
    refine lv_aload_n hx hb dL_law_641 rfl (lv_at hl 4 rfl) ?_
    refine lv_iload hx hb dL_law_642 (lv_at hl 0 rfl) ?_
    refine lv_iconst (v := 1) hx hb dL_law_644 (by decide) ?_
    refine lv_iadd hx hb dL_law_645 ?_
    rw [show (nI i) + 1 = nI (i + 1) from nI_add i 1]
    refine va_sld hx hb hX hbl hbA hS (vp_in_nI (by omega) (by omega)) dL_law_646 ?_
    rw [show (nI (i + 1)).toNatClampNeg = i + 1 from nI_clamp (by omega)]
    refine lv_aload_n hx hb dL_law_647 rfl (lv_at hl 1 rfl) ?_
    refine g_LS (As := [.ref x0, .int (xs (i + 1)), .ref o]) (rest := []) ⟨hx, hb, hml, hown, hts⟩ (mt_L_cut_1 l htr dC dI cA cL H.size x0 (xs (i + 1)) r0 r1 r2 r3 (nI rn) o fo hbad) (vx_cwSW 3 hts gL_law_L_cut rfl rfl rfl hdL_cut ⟨Nat.le_of_ble_eq_true rfl, Nat.le_of_ble_eq_true rfl⟩) hP hKl hD hS hA hZ [0, 15] (by decide) rfl rfl hl.1 rfl (Nat.le_of_ble_eq_true rfl) dL_law_648 hc1 hs1 (fun u9 => [(x0, .inr (1, [.ref r0, .ref r1, .ref r2, .ref r3, .int (nI rn)])), (r0, .inr (0, [.ref a0, .int (nI L0.length)])), (a0, .inl (cA, (100, .inl f0))), (r1, .inr (0, [.ref a1, .int (nI L1.length)])), (a1, .inl (cA, (100, .inl f1))), (r2, .inr (0, [.ref a2, .int n2])), (a2, .inl (cA, (100, .inl f2))), (r3, .inr (0, [.ref a3, .int n3])), (a3, .inl (cA, (100, .inl f3))), (y0, .inr (2, [.int tv, .int (nI rn), .ref q1, .ref q2, .int mn, .ref q3, .ref q4, .int ct, .int il, .ref q5])), (q1, .inl (cA, (2, .inl sf))), (q2, .inl (cA, (60, .inl lf))), (q3, .inl (cA, (320, .inl rf))), (q4, .inl (cA, (320, .inl nf))), (q5, .inl (cA, (6, .inl gf))), (o, .inl (cL, (1, .inr (.inl fo))))]) (fun _ => rfl) (fun _ => rfl) (fun u H locs hw_1 hP hD hS => ?_)
    have hP : va_P (dC, dI) vwCl [(x0, .inr (1, [.ref r0, .ref r1, .ref r2, .ref r3, .int (nI rn)])), (r0, .inr (0, [.ref a0, .int (nI L0.length)])), (a0, .inl (cA, (100, .inl f0))), (r1, .inr (0, [.ref a1, .int (nI L1.length)])), (a1, .inl (cA, (100, .inl f1))), (r2, .inr (0, [.ref a2, .int n2])), (a2, .inl (cA, (100, .inl f2))), (r3, .inr (0, [.ref a3, .int n3])), (a3, .inl (cA, (100, .inl f3))), (y0, .inr (2, [.int tv, .int (nI rn), .ref q1, .ref q2, .int mn, .ref q3, .ref q4, .int ct, .int il, .ref q5])), (q1, .inl (cA, (2, .inl sf))), (q2, .inl (cA, (60, .inl lf))), (q3, .inl (cA, (320, .inl rf))), (q4, .inl (cA, (320, .inl nf))), (q5, .inl (cA, (6, .inl gf))), (o, .inl (cL, (1, .inr (.inl fo))))] H := hP
    have hD : va_D A [(x0, .inr (1, [.ref r0, .ref r1, .ref r2, .ref r3, .int (nI rn)])), (r0, .inr (0, [.ref a0, .int (nI L0.length)])), (a0, .inl (cA, (100, .inl f0))), (r1, .inr (0, [.ref a1, .int (nI L1.length)])), (a1, .inl (cA, (100, .inl f1))), (r2, .inr (0, [.ref a2, .int n2])), (a2, .inl (cA, (100, .inl f2))), (r3, .inr (0, [.ref a3, .int n3])), (a3, .inl (cA, (100, .inl f3))), (y0, .inr (2, [.int tv, .int (nI rn), .ref q1, .ref q2, .int mn, .ref q3, .ref q4, .int ct, .int il, .ref q5])), (q1, .inl (cA, (2, .inl sf))), (q2, .inl (cA, (60, .inl lf))), (q3, .inl (cA, (320, .inl rf))), (q4, .inl (cA, (320, .inl nf))), (q5, .inl (cA, (6, .inl gf))), (o, .inl (cL, (1, .inr (.inl fo))))] := hD
    refine lv_istore (lv' := [(5, .int 1), (4, .int (nI i)), (3, .ref o), (2, .ref y0), (1, .ref x0), (0, .ref b)]) hx hb dL_law_651 hl (by decide) rfl (fun ls hl => ?_)
    refine lv_aload_n hx hb dL_law_653 rfl (lv_at hl 3 rfl) ?_
    refine lv_aload_n hx hb dL_law_654 rfl (lv_at hl 5 rfl) ?_
    refine lv_iload hx hb dL_law_655 (lv_at hl 1 rfl) ?_
    refine lv_iconst (v := 1) hx hb dL_law_657 (by decide) ?_
    refine lv_iadd hx hb dL_law_658 ?_
    rw [show (nI i) + 1 = nI (i + 1) from nI_add i 1]
    refine va_sld hx hb hX hbl hbA hS (vp_in_nI (by omega) (by omega)) dL_law_659 ?_
    rw [show (nI (i + 1)).toNatClampNeg = i + 1 from nI_clamp (by omega)]
    refine g_MVi (As := [.int (xs (i + 1))]) (rest := []) ⟨hx, hb, hml, hown, hts⟩ (mt_X2_cut_1 l dC dI cA H.size y0 q1 q2 q3 q4 q5 rn tv sf lf mn rf nf ct il gf (xs (i + 1)) hbad) (cwV 1 hts gL_law_X2_cut rfl rfl rfl hdX2_cut ⟨Nat.le_of_ble_eq_true rfl, Nat.le_of_ble_eq_true rfl⟩) hP hK hD hS hA [9, 10, 11, 12, 13, 14] (by decide) rfl (va_recv hK hP (ci := 2) (q0 := 9) rfl rfl) rfl hl.1 rfl (Nat.le_of_ble_eq_true rfl) dL_law_660 hc1 hs1 (fun u9 => [(x0, .inr (1, [.ref r0, .ref r1, .ref r2, .ref r3, .int (nI rn)])), (r0, .inr (0, [.ref a0, .int (nI L0.length)])), (a0, .inl (cA, (100, .inl f0))), (r1, .inr (0, [.ref a1, .int (nI L1.length)])), (a1, .inl (cA, (100, .inl f1))), (r2, .inr (0, [.ref a2, .int n2])), (a2, .inl (cA, (100, .inl f2))), (r3, .inr (0, [.ref a3, .int n3])), (a3, .inl (cA, (100, .inl f3))), (y0, .inr (2, [.int 1, .int (nI rn), .ref q1, .ref q2, .int mn, .ref q3, .ref q4, .int ct, .int il, .ref q5])), (q1, .inl (cA, (2, .inl sf))), (q2, .inl (cA, (60, .inl lf))), (q3, .inl (cA, (320, .inl rf))), (q4, .inl (cA, (320, .inl nf))), (q5, .inl (cA, (6, .inl gf))), (o, .inl (cL, (1, .inr (.inl fo))))]) (fun _ => rfl) (fun _ => rfl) (fun u H locs hw_2 hP hD hS => ?_)
    have hw_2 : True := hw_2
    have hP : va_P (dC, dI) vwCl [(x0, .inr (1, [.ref r0, .ref r1, .ref r2, .ref r3, .int (nI rn)])), (r0, .inr (0, [.ref a0, .int (nI L0.length)])), (a0, .inl (cA, (100, .inl f0))), (r1, .inr (0, [.ref a1, .int (nI L1.length)])), (a1, .inl (cA, (100, .inl f1))), (r2, .inr (0, [.ref a2, .int n2])), (a2, .inl (cA, (100, .inl f2))), (r3, .inr (0, [.ref a3, .int n3])), (a3, .inl (cA, (100, .inl f3))), (y0, .inr (2, [.int 1, .int (nI rn), .ref q1, .ref q2, .int mn, .ref q3, .ref q4, .int ct, .int il, .ref q5])), (q1, .inl (cA, (2, .inl sf))), (q2, .inl (cA, (60, .inl lf))), (q3, .inl (cA, (320, .inl rf))), (q4, .inl (cA, (320, .inl nf))), (q5, .inl (cA, (6, .inl gf))), (o, .inl (cL, (1, .inr (.inl fo))))] H := hP
    have hD : va_D A [(x0, .inr (1, [.ref r0, .ref r1, .ref r2, .ref r3, .int (nI rn)])), (r0, .inr (0, [.ref a0, .int (nI L0.length)])), (a0, .inl (cA, (100, .inl f0))), (r1, .inr (0, [.ref a1, .int (nI L1.length)])), (a1, .inl (cA, (100, .inl f1))), (r2, .inr (0, [.ref a2, .int n2])), (a2, .inl (cA, (100, .inl f2))), (r3, .inr (0, [.ref a3, .int n3])), (a3, .inl (cA, (100, .inl f3))), (y0, .inr (2, [.int 1, .int (nI rn), .ref q1, .ref q2, .int mn, .ref q3, .ref q4, .int ct, .int il, .ref q5])), (q1, .inl (cA, (2, .inl sf))), (q2, .inl (cA, (60, .inl lf))), (q3, .inl (cA, (320, .inl rf))), (q4, .inl (cA, (320, .inl nf))), (q5, .inl (cA, (6, .inl gf))), (o, .inl (cL, (1, .inr (.inl fo))))] := hD
    refine lv_istore (lv' := [(6, .int 0), (5, .int 1), (4, .int (nI i)), (3, .ref o), (2, .ref y0), (1, .ref x0), (0, .ref b)]) hx hb dL_law_663 hl (by decide) rfl (fun ls hl => ?_)
    refine lv_aload_n hx hb dL_law_665 rfl (lv_at hl 4 rfl) ?_
    refine g_RVi (As := []) (rest := []) ⟨hx, hb, hml, hown, hts⟩ (mt_X2_thrown l dC dI cA H.size y0 q1 q2 q3 q4 q5 rn 1 sf lf mn rf nf ct il gf) (cwV 0 hts gL_law_X2_thrown rfl rfl rfl hdX2_thrown ⟨Nat.le_of_ble_eq_true rfl, Nat.le_of_ble_eq_true rfl⟩) hP hK hD [9, 10, 11, 12, 13, 14] (by decide) rfl (va_recv hK hP (ci := 2) (q0 := 9) rfl rfl) rfl hl.1 rfl (Nat.le_of_ble_eq_true rfl) dL_law_666 hc1 hs1 ?_
    refine lv_iload hx hb dL_law_669 (lv_at hl 1 rfl) ?_
    refine lv_icmp_eq (tgt := 676) hx hb dL_law_671 (by decide) (fun c671 => ?_) (fun c671 => ?_)
    · refine lv_iload hx hb dL_law_676 (lv_at hl 1 rfl) ?_
      refine lv_if_ne (tgt := 693) hx hb dL_law_678 (by decide) (fun c678 => ?_) (fun c678 => ?_)
      · have c678 : ¬ 1 = 0 := g_neT 1 0 (by omega) (by omega) c678
        refine lv_goto (tgt := 1241) hx hb dL_law_693 (by decide) ?_
        exact kk rn L0 L1 _ _ _ _ _ ⟨f0, f1, n2, f2, n3, f3, 1, sf, lf, mn, rf, nf, ct, il, gf, fo, hP, hD, hS, hR0, hR1, hl0, hl1, hrn, hr6, hk0, hk1, hW⟩ (by omega) (by omega) (lv_sub hl [2, 3, 4, 5, 6] rfl)
      · exact absurd c678 (by decide)
    · exact absurd (by decide) c671
  · rcases hen : enF L0 0 with _ | e9
    · refine lv_aload_n hx hb dL_law_640 rfl (lv_at hl 3 rfl) ?_
      refine lv_aload_n hx hb dL_law_641 rfl (lv_at hl 4 rfl) ?_
      refine lv_iload hx hb dL_law_642 (lv_at hl 0 rfl) ?_
      refine lv_iconst (v := 1) hx hb dL_law_644 (by decide) ?_
      refine lv_iadd hx hb dL_law_645 ?_
      rw [show (nI i) + 1 = nI (i + 1) from nI_add i 1]
      refine va_sld hx hb hX hbl hbA hS (vp_in_nI (by omega) (by omega)) dL_law_646 ?_
      rw [show (nI (i + 1)).toNatClampNeg = i + 1 from nI_clamp (by omega)]
      rw [h1]
      refine lv_aload_n hx hb dL_law_647 rfl (lv_at hl 1 rfl) ?_
      refine g_LS (As := [.ref x0, .int (nI 0), .ref o]) (rest := []) ⟨hx, hb, hml, hown, hts⟩ (mt_L_cut_2_0 l htr dC dI cA cL H.size x0 r0 r1 r2 r3 rn a0 L0 f0 o fo hR0 hen) (vx_cwSW 3 hts gL_law_L_cut rfl rfl rfl hdL_cut ⟨Nat.le_of_ble_eq_true rfl, Nat.le_of_ble_eq_true rfl⟩) hP hKl hD hS hA hZ [0, 1, 2, 15] (by decide) rfl rfl hl.1 rfl (Nat.le_of_ble_eq_true rfl) dL_law_648 hc1 hs1 (fun u9 => [(x0, .inr (1, [.ref r0, .ref r1, .ref r2, .ref r3, .int (nI rn)])), (r0, .inr (0, [.ref a0, .int (nI L0.length)])), (a0, .inl (cA, (100, .inl f0))), (r1, .inr (0, [.ref a1, .int (nI L1.length)])), (a1, .inl (cA, (100, .inl f1))), (r2, .inr (0, [.ref a2, .int n2])), (a2, .inl (cA, (100, .inl f2))), (r3, .inr (0, [.ref a3, .int n3])), (a3, .inl (cA, (100, .inl f3))), (y0, .inr (2, [.int tv, .int (nI rn), .ref q1, .ref q2, .int mn, .ref q3, .ref q4, .int ct, .int il, .ref q5])), (q1, .inl (cA, (2, .inl sf))), (q2, .inl (cA, (60, .inl lf))), (q3, .inl (cA, (320, .inl rf))), (q4, .inl (cA, (320, .inl nf))), (q5, .inl (cA, (6, .inl gf))), (o, .inl (cL, (1, .inr (.inl fo))))]) (fun _ => rfl) (fun _ => rfl) (fun u H locs hw_1 hP hD hS => ?_)
      have hP : va_P (dC, dI) vwCl [(x0, .inr (1, [.ref r0, .ref r1, .ref r2, .ref r3, .int (nI rn)])), (r0, .inr (0, [.ref a0, .int (nI L0.length)])), (a0, .inl (cA, (100, .inl f0))), (r1, .inr (0, [.ref a1, .int (nI L1.length)])), (a1, .inl (cA, (100, .inl f1))), (r2, .inr (0, [.ref a2, .int n2])), (a2, .inl (cA, (100, .inl f2))), (r3, .inr (0, [.ref a3, .int n3])), (a3, .inl (cA, (100, .inl f3))), (y0, .inr (2, [.int tv, .int (nI rn), .ref q1, .ref q2, .int mn, .ref q3, .ref q4, .int ct, .int il, .ref q5])), (q1, .inl (cA, (2, .inl sf))), (q2, .inl (cA, (60, .inl lf))), (q3, .inl (cA, (320, .inl rf))), (q4, .inl (cA, (320, .inl nf))), (q5, .inl (cA, (6, .inl gf))), (o, .inl (cL, (1, .inr (.inl fo))))] H := hP
      have hD : va_D A [(x0, .inr (1, [.ref r0, .ref r1, .ref r2, .ref r3, .int (nI rn)])), (r0, .inr (0, [.ref a0, .int (nI L0.length)])), (a0, .inl (cA, (100, .inl f0))), (r1, .inr (0, [.ref a1, .int (nI L1.length)])), (a1, .inl (cA, (100, .inl f1))), (r2, .inr (0, [.ref a2, .int n2])), (a2, .inl (cA, (100, .inl f2))), (r3, .inr (0, [.ref a3, .int n3])), (a3, .inl (cA, (100, .inl f3))), (y0, .inr (2, [.int tv, .int (nI rn), .ref q1, .ref q2, .int mn, .ref q3, .ref q4, .int ct, .int il, .ref q5])), (q1, .inl (cA, (2, .inl sf))), (q2, .inl (cA, (60, .inl lf))), (q3, .inl (cA, (320, .inl rf))), (q4, .inl (cA, (320, .inl nf))), (q5, .inl (cA, (6, .inl gf))), (o, .inl (cL, (1, .inr (.inl fo))))] := hD
      refine lv_istore (lv' := [(5, .int 2), (4, .int (nI i)), (3, .ref o), (2, .ref y0), (1, .ref x0), (0, .ref b)]) hx hb dL_law_651 hl (by decide) rfl (fun ls hl => ?_)
      refine lv_aload_n hx hb dL_law_653 rfl (lv_at hl 3 rfl) ?_
      refine lv_aload_n hx hb dL_law_654 rfl (lv_at hl 5 rfl) ?_
      refine lv_iload hx hb dL_law_655 (lv_at hl 1 rfl) ?_
      refine lv_iconst (v := 1) hx hb dL_law_657 (by decide) ?_
      refine lv_iadd hx hb dL_law_658 ?_
      rw [show (nI i) + 1 = nI (i + 1) from nI_add i 1]
      refine va_sld hx hb hX hbl hbA hS (vp_in_nI (by omega) (by omega)) dL_law_659 ?_
      rw [show (nI (i + 1)).toNatClampNeg = i + 1 from nI_clamp (by omega)]
      rw [h1]
      refine g_MVi (As := [.int (nI 0)]) (rest := []) ⟨hx, hb, hml, hown, hts⟩ (mt_X2_cut_2 l dC dI cA H.size y0 q1 q2 q3 q4 q5 rn tv sf lf mn rf nf ct il gf (V2 L0 L1) 0 hW (by omega) hrn hk0 hen) (cwV 1 hts gL_law_X2_cut rfl rfl rfl hdX2_cut ⟨Nat.le_of_ble_eq_true rfl, Nat.le_of_ble_eq_true rfl⟩) hP hK hD hS hA [9, 10, 11, 12, 13, 14] (by decide) rfl (va_recv hK hP (ci := 2) (q0 := 9) rfl rfl) rfl hl.1 rfl (Nat.le_of_ble_eq_true rfl) dL_law_660 hc1 hs1 (fun u9 => [(x0, .inr (1, [.ref r0, .ref r1, .ref r2, .ref r3, .int (nI rn)])), (r0, .inr (0, [.ref a0, .int (nI L0.length)])), (a0, .inl (cA, (100, .inl f0))), (r1, .inr (0, [.ref a1, .int (nI L1.length)])), (a1, .inl (cA, (100, .inl f1))), (r2, .inr (0, [.ref a2, .int n2])), (a2, .inl (cA, (100, .inl f2))), (r3, .inr (0, [.ref a3, .int n3])), (a3, .inl (cA, (100, .inl f3))), (y0, .inr (2, [.int 2, .int (nI rn), .ref q1, .ref q2, .int (nI (((V2 L0 L1) 0).length)), .ref q3, .ref q4, .int ct, .int il, .ref q5])), (q1, .inl (cA, (2, .inl sf))), (q2, .inl (cA, (60, .inl lf))), (q3, .inl (cA, (320, .inl u9))), (q4, .inl (cA, (320, .inl nf))), (q5, .inl (cA, (6, .inl gf))), (o, .inl (cL, (1, .inr (.inl fo))))]) (fun _ => rfl) (fun _ => rfl) (fun u H locs hw_3 hP hD hS => ?_)
      obtain ⟨r1_2, rfl⟩ : ∃ z, z = u := ⟨_, rfl⟩
      have hw_3 : True := hw_3
      have hP : va_P (dC, dI) vwCl [(x0, .inr (1, [.ref r0, .ref r1, .ref r2, .ref r3, .int (nI rn)])), (r0, .inr (0, [.ref a0, .int (nI L0.length)])), (a0, .inl (cA, (100, .inl f0))), (r1, .inr (0, [.ref a1, .int (nI L1.length)])), (a1, .inl (cA, (100, .inl f1))), (r2, .inr (0, [.ref a2, .int n2])), (a2, .inl (cA, (100, .inl f2))), (r3, .inr (0, [.ref a3, .int n3])), (a3, .inl (cA, (100, .inl f3))), (y0, .inr (2, [.int 2, .int (nI rn), .ref q1, .ref q2, .int (nI (((V2 L0 L1) 0).length)), .ref q3, .ref q4, .int ct, .int il, .ref q5])), (q1, .inl (cA, (2, .inl sf))), (q2, .inl (cA, (60, .inl lf))), (q3, .inl (cA, (320, .inl r1_2))), (q4, .inl (cA, (320, .inl nf))), (q5, .inl (cA, (6, .inl gf))), (o, .inl (cL, (1, .inr (.inl fo))))] H := hP
      have hD : va_D A [(x0, .inr (1, [.ref r0, .ref r1, .ref r2, .ref r3, .int (nI rn)])), (r0, .inr (0, [.ref a0, .int (nI L0.length)])), (a0, .inl (cA, (100, .inl f0))), (r1, .inr (0, [.ref a1, .int (nI L1.length)])), (a1, .inl (cA, (100, .inl f1))), (r2, .inr (0, [.ref a2, .int n2])), (a2, .inl (cA, (100, .inl f2))), (r3, .inr (0, [.ref a3, .int n3])), (a3, .inl (cA, (100, .inl f3))), (y0, .inr (2, [.int 2, .int (nI rn), .ref q1, .ref q2, .int (nI (((V2 L0 L1) 0).length)), .ref q3, .ref q4, .int ct, .int il, .ref q5])), (q1, .inl (cA, (2, .inl sf))), (q2, .inl (cA, (60, .inl lf))), (q3, .inl (cA, (320, .inl r1_2))), (q4, .inl (cA, (320, .inl nf))), (q5, .inl (cA, (6, .inl gf))), (o, .inl (cL, (1, .inr (.inl fo))))] := hD
      refine lv_istore (lv' := [(6, .int 0), (5, .int 2), (4, .int (nI i)), (3, .ref o), (2, .ref y0), (1, .ref x0), (0, .ref b)]) hx hb dL_law_663 hl (by decide) rfl (fun ls hl => ?_)
      refine lv_aload_n hx hb dL_law_665 rfl (lv_at hl 4 rfl) ?_
      refine g_RVi (As := []) (rest := []) ⟨hx, hb, hml, hown, hts⟩ (mt_X2_thrown l dC dI cA H.size y0 q1 q2 q3 q4 q5 rn 2 sf lf (nI (((V2 L0 L1) 0).length)) r1_2 nf ct il gf) (cwV 0 hts gL_law_X2_thrown rfl rfl rfl hdX2_thrown ⟨Nat.le_of_ble_eq_true rfl, Nat.le_of_ble_eq_true rfl⟩) hP hK hD [9, 10, 11, 12, 13, 14] (by decide) rfl (va_recv hK hP (ci := 2) (q0 := 9) rfl rfl) rfl hl.1 rfl (Nat.le_of_ble_eq_true rfl) dL_law_666 hc1 hs1 ?_
      refine lv_iload hx hb dL_law_669 (lv_at hl 1 rfl) ?_
      refine lv_icmp_eq (tgt := 676) hx hb dL_law_671 (by decide) (fun c671 => ?_) (fun c671 => ?_)
      · refine lv_iload hx hb dL_law_676 (lv_at hl 1 rfl) ?_
        refine lv_if_ne (tgt := 693) hx hb dL_law_678 (by decide) (fun c678 => ?_) (fun c678 => ?_)
        · have c678 : ¬ 2 = 0 := g_neT 2 0 (by omega) (by omega) c678
          refine lv_goto (tgt := 1241) hx hb dL_law_693 (by decide) ?_
          exact kk rn L0 L1 _ _ _ _ _ ⟨f0, f1, n2, f2, n3, f3, 2, sf, lf, nI (((V2 L0 L1) 0).length), r1_2, nf, ct, il, gf, fo, hP, hD, hS, hR0, hR1, hl0, hl1, hrn, hr6, hk0, hk1, hW⟩ (by omega) (by omega) (lv_sub hl [2, 3, 4, 5, 6] rfl)
        · exact absurd c678 (by decide)
      · exact absurd (by decide) c671
    · obtain ⟨-, he2, ⟨b9, hb9⟩, -⟩ := enF_spec hen
      have hbl9 := bg_lt hb9
      by_cases hk : (cutL L0 b9 e9).length ≤ 30
      · refine lv_aload_n hx hb dL_law_640 rfl (lv_at hl 3 rfl) ?_
        refine lv_aload_n hx hb dL_law_641 rfl (lv_at hl 4 rfl) ?_
        refine lv_iload hx hb dL_law_642 (lv_at hl 0 rfl) ?_
        refine lv_iconst (v := 1) hx hb dL_law_644 (by decide) ?_
        refine lv_iadd hx hb dL_law_645 ?_
        rw [show (nI i) + 1 = nI (i + 1) from nI_add i 1]
        refine va_sld hx hb hX hbl hbA hS (vp_in_nI (by omega) (by omega)) dL_law_646 ?_
        rw [show (nI (i + 1)).toNatClampNeg = i + 1 from nI_clamp (by omega)]
        rw [h1]
        refine lv_aload_n hx hb dL_law_647 rfl (lv_at hl 1 rfl) ?_
        refine g_LS (As := [.ref x0, .int (nI 0), .ref o]) (rest := []) ⟨hx, hb, hml, hown, hts⟩ (mt_L_cut0 l htr dC dI cA cL H.size x0 r0 r1 r2 r3 rn a0 L0 f0 a3 n3 f3 b9 e9 o fo hR0 hen hb9 hk) (vx_cwSW 3 hts gL_law_L_cut rfl rfl rfl hdL_cut ⟨Nat.le_of_ble_eq_true rfl, Nat.le_of_ble_eq_true rfl⟩) hP hKl hD hS hA hZ [0, 1, 2, 7, 8, 15] (by decide) rfl rfl hl.1 rfl (Nat.le_of_ble_eq_true rfl) dL_law_648 hc0 hs0 (fun u9 => [(x0, .inr (1, [.ref r0, .ref r1, .ref r2, .ref r3, .int (nI rn)])), (r0, .inr (0, [.ref a0, .int (nI ((cutL L0 b9 e9).length))])), (a0, .inl (cA, (100, .inl u9.1))), (r1, .inr (0, [.ref a1, .int (nI L1.length)])), (a1, .inl (cA, (100, .inl f1))), (r2, .inr (0, [.ref a2, .int n2])), (a2, .inl (cA, (100, .inl f2))), (r3, .inr (0, [.ref a3, .int (nI ((cutL L0 b9 e9).length))])), (a3, .inl (cA, (100, .inl u9.2))), (y0, .inr (2, [.int tv, .int (nI rn), .ref q1, .ref q2, .int mn, .ref q3, .ref q4, .int ct, .int il, .ref q5])), (q1, .inl (cA, (2, .inl sf))), (q2, .inl (cA, (60, .inl lf))), (q3, .inl (cA, (320, .inl rf))), (q4, .inl (cA, (320, .inl nf))), (q5, .inl (cA, (6, .inl gf))), (o, .inl (cL, (1, .inr (.inl (vp_updL fo 0 (nI ((cutL L0 b9 e9).length)).toInt64)))))]) (fun _ => rfl) (fun _ => rfl) (fun u H locs hw_3 hP hD hS => ?_)
        obtain ⟨g1_1, g3_2⟩ := u
        have hw_3 : RI (cutL L0 b9 e9) g1_1 := hw_3
        have hP : va_P (dC, dI) vwCl [(x0, .inr (1, [.ref r0, .ref r1, .ref r2, .ref r3, .int (nI rn)])), (r0, .inr (0, [.ref a0, .int (nI ((cutL L0 b9 e9).length))])), (a0, .inl (cA, (100, .inl g1_1))), (r1, .inr (0, [.ref a1, .int (nI L1.length)])), (a1, .inl (cA, (100, .inl f1))), (r2, .inr (0, [.ref a2, .int n2])), (a2, .inl (cA, (100, .inl f2))), (r3, .inr (0, [.ref a3, .int (nI ((cutL L0 b9 e9).length))])), (a3, .inl (cA, (100, .inl g3_2))), (y0, .inr (2, [.int tv, .int (nI rn), .ref q1, .ref q2, .int mn, .ref q3, .ref q4, .int ct, .int il, .ref q5])), (q1, .inl (cA, (2, .inl sf))), (q2, .inl (cA, (60, .inl lf))), (q3, .inl (cA, (320, .inl rf))), (q4, .inl (cA, (320, .inl nf))), (q5, .inl (cA, (6, .inl gf))), (o, .inl (cL, (1, .inr (.inl (vp_updL fo 0 (nI ((cutL L0 b9 e9).length)).toInt64)))))] H := hP
        have hD : va_D A [(x0, .inr (1, [.ref r0, .ref r1, .ref r2, .ref r3, .int (nI rn)])), (r0, .inr (0, [.ref a0, .int (nI ((cutL L0 b9 e9).length))])), (a0, .inl (cA, (100, .inl g1_1))), (r1, .inr (0, [.ref a1, .int (nI L1.length)])), (a1, .inl (cA, (100, .inl f1))), (r2, .inr (0, [.ref a2, .int n2])), (a2, .inl (cA, (100, .inl f2))), (r3, .inr (0, [.ref a3, .int (nI ((cutL L0 b9 e9).length))])), (a3, .inl (cA, (100, .inl g3_2))), (y0, .inr (2, [.int tv, .int (nI rn), .ref q1, .ref q2, .int mn, .ref q3, .ref q4, .int ct, .int il, .ref q5])), (q1, .inl (cA, (2, .inl sf))), (q2, .inl (cA, (60, .inl lf))), (q3, .inl (cA, (320, .inl rf))), (q4, .inl (cA, (320, .inl nf))), (q5, .inl (cA, (6, .inl gf))), (o, .inl (cL, (1, .inr (.inl (vp_updL fo 0 (nI ((cutL L0 b9 e9).length)).toInt64)))))] := hD
        refine lv_istore (lv' := [(5, .int 0), (4, .int (nI i)), (3, .ref o), (2, .ref y0), (1, .ref x0), (0, .ref b)]) hx hb dL_law_651 hl (by decide) rfl (fun ls hl => ?_)
        refine lv_aload_n hx hb dL_law_653 rfl (lv_at hl 3 rfl) ?_
        refine lv_aload_n hx hb dL_law_654 rfl (lv_at hl 5 rfl) ?_
        refine lv_iload hx hb dL_law_655 (lv_at hl 1 rfl) ?_
        refine lv_iconst (v := 1) hx hb dL_law_657 (by decide) ?_
        refine lv_iadd hx hb dL_law_658 ?_
        rw [show (nI i) + 1 = nI (i + 1) from nI_add i 1]
        refine va_sld hx hb hX hbl hbA hS (vp_in_nI (by omega) (by omega)) dL_law_659 ?_
        rw [show (nI (i + 1)).toNatClampNeg = i + 1 from nI_clamp (by omega)]
        rw [h1]
        refine g_MVi (As := [.int (nI 0)]) (rest := []) ⟨hx, hb, hml, hown, hts⟩ (mt_X2_cut l dC dI cA H.size y0 q1 q2 q3 q4 q5 rn tv sf lf mn rf nf ct il gf (V2 L0 L1) 0 b9 e9 hW (by omega) hrn hk0 hen hb9 hk) (cwV 1 hts gL_law_X2_cut rfl rfl rfl hdX2_cut ⟨Nat.le_of_ble_eq_true rfl, Nat.le_of_ble_eq_true rfl⟩) hP hK hD hS hA [9, 10, 11, 12, 13, 14] (by decide) rfl (va_recv hK hP (ci := 2) (q0 := 9) rfl rfl) rfl hl.1 rfl (Nat.le_of_ble_eq_true rfl) dL_law_660 hc0 hs0 (fun u9 => [(x0, .inr (1, [.ref r0, .ref r1, .ref r2, .ref r3, .int (nI rn)])), (r0, .inr (0, [.ref a0, .int (nI ((cutL L0 b9 e9).length))])), (a0, .inl (cA, (100, .inl g1_1))), (r1, .inr (0, [.ref a1, .int (nI L1.length)])), (a1, .inl (cA, (100, .inl f1))), (r2, .inr (0, [.ref a2, .int n2])), (a2, .inl (cA, (100, .inl f2))), (r3, .inr (0, [.ref a3, .int (nI ((cutL L0 b9 e9).length))])), (a3, .inl (cA, (100, .inl g3_2))), (y0, .inr (2, [.int 0, .int (nI rn), .ref q1, .ref q2, .int (nI ((cutL ((V2 L0 L1) 0) b9 e9).length)), .ref q3, .ref q4, .int ct, .int il, .ref q5])), (q1, .inl (cA, (2, .inl u9.1))), (q2, .inl (cA, (60, .inl u9.2.1))), (q3, .inl (cA, (320, .inl u9.2.2.1))), (q4, .inl (cA, (320, .inl u9.2.2.2))), (q5, .inl (cA, (6, .inl gf))), (o, .inl (cL, (1, .inr (.inl (vp_updL fo 0 (nI ((cutL L0 b9 e9).length)).toInt64)))))]) (fun _ => rfl) (fun _ => rfl) (fun u H locs hw_8 hP hD hS => ?_)
        obtain ⟨s1_4, l1_5, r1_6, n1_7⟩ := u
        have hw_8 : MW (upW (V2 L0 L1) 0 (cutL ((V2 L0 L1) 0) b9 e9)) s1_4 l1_5 := hw_8
        have hP : va_P (dC, dI) vwCl [(x0, .inr (1, [.ref r0, .ref r1, .ref r2, .ref r3, .int (nI rn)])), (r0, .inr (0, [.ref a0, .int (nI ((cutL L0 b9 e9).length))])), (a0, .inl (cA, (100, .inl g1_1))), (r1, .inr (0, [.ref a1, .int (nI L1.length)])), (a1, .inl (cA, (100, .inl f1))), (r2, .inr (0, [.ref a2, .int n2])), (a2, .inl (cA, (100, .inl f2))), (r3, .inr (0, [.ref a3, .int (nI ((cutL L0 b9 e9).length))])), (a3, .inl (cA, (100, .inl g3_2))), (y0, .inr (2, [.int 0, .int (nI rn), .ref q1, .ref q2, .int (nI ((cutL ((V2 L0 L1) 0) b9 e9).length)), .ref q3, .ref q4, .int ct, .int il, .ref q5])), (q1, .inl (cA, (2, .inl s1_4))), (q2, .inl (cA, (60, .inl l1_5))), (q3, .inl (cA, (320, .inl r1_6))), (q4, .inl (cA, (320, .inl n1_7))), (q5, .inl (cA, (6, .inl gf))), (o, .inl (cL, (1, .inr (.inl (vp_updL fo 0 (nI ((cutL L0 b9 e9).length)).toInt64)))))] H := hP
        have hD : va_D A [(x0, .inr (1, [.ref r0, .ref r1, .ref r2, .ref r3, .int (nI rn)])), (r0, .inr (0, [.ref a0, .int (nI ((cutL L0 b9 e9).length))])), (a0, .inl (cA, (100, .inl g1_1))), (r1, .inr (0, [.ref a1, .int (nI L1.length)])), (a1, .inl (cA, (100, .inl f1))), (r2, .inr (0, [.ref a2, .int n2])), (a2, .inl (cA, (100, .inl f2))), (r3, .inr (0, [.ref a3, .int (nI ((cutL L0 b9 e9).length))])), (a3, .inl (cA, (100, .inl g3_2))), (y0, .inr (2, [.int 0, .int (nI rn), .ref q1, .ref q2, .int (nI ((cutL ((V2 L0 L1) 0) b9 e9).length)), .ref q3, .ref q4, .int ct, .int il, .ref q5])), (q1, .inl (cA, (2, .inl s1_4))), (q2, .inl (cA, (60, .inl l1_5))), (q3, .inl (cA, (320, .inl r1_6))), (q4, .inl (cA, (320, .inl n1_7))), (q5, .inl (cA, (6, .inl gf))), (o, .inl (cL, (1, .inr (.inl (vp_updL fo 0 (nI ((cutL L0 b9 e9).length)).toInt64)))))] := hD
        refine lv_istore (lv' := [(6, .int (nI ((cutL ((V2 L0 L1) 0) b9 e9).length))), (5, .int 0), (4, .int (nI i)), (3, .ref o), (2, .ref y0), (1, .ref x0), (0, .ref b)]) hx hb dL_law_663 hl (by decide) rfl (fun ls hl => ?_)
        refine lv_aload_n hx hb dL_law_665 rfl (lv_at hl 4 rfl) ?_
        refine g_RVi (As := []) (rest := []) ⟨hx, hb, hml, hown, hts⟩ (mt_X2_thrown l dC dI cA H.size y0 q1 q2 q3 q4 q5 rn 0 s1_4 l1_5 (nI ((cutL ((V2 L0 L1) 0) b9 e9).length)) r1_6 n1_7 ct il gf) (cwV 0 hts gL_law_X2_thrown rfl rfl rfl hdX2_thrown ⟨Nat.le_of_ble_eq_true rfl, Nat.le_of_ble_eq_true rfl⟩) hP hK hD [9, 10, 11, 12, 13, 14] (by decide) rfl (va_recv hK hP (ci := 2) (q0 := 9) rfl rfl) rfl hl.1 rfl (Nat.le_of_ble_eq_true rfl) dL_law_666 hc0 hs0 ?_
        refine lv_iload hx hb dL_law_669 (lv_at hl 1 rfl) ?_
        refine lv_icmp_eq (tgt := 676) hx hb dL_law_671 (by decide) (fun c671 => ?_) (fun c671 => ?_)
        · refine lv_iload hx hb dL_law_676 (lv_at hl 1 rfl) ?_
          refine lv_if_ne (tgt := 693) hx hb dL_law_678 (by decide) (fun c678 => ?_) (fun c678 => ?_)
          · exact absurd (by decide) c678
          · have c678 : 0 = 0 := g_neF 0 0 (by omega) (by omega) c678
            refine lv_aload_n hx hb dL_law_681 rfl (lv_at hl 3 rfl) ?_
            refine lv_iconst (v := 0) hx hb dL_law_682 (by decide) ?_
            refine va_lald hx hb hKl hP 15 1 rfl rfl (vp_in_nI (n := 0) (by omega) (by decide)) dL_law_683 ?_
            rw [show (0 : Int32).toNatClampNeg = 0 from by decide, pk_uLs]
            refine lv_iload hx hb dL_law_684 (lv_at hl 0 rfl) ?_
            refine lv_i2l (v := (nI ((cutL ((V2 L0 L1) 0) b9 e9).length)).toInt64) hx hb dL_law_686 rfl ?_
            refine W.lcmp hx hb dL_law_687 ?_
            rw [show lg_cmp ((nI ((cutL L0 b9 e9).length)).toInt64) ((nI ((cutL ((V2 L0 L1) 0) b9 e9).length)).toInt64) = 0 from (lg_cmp_eq _ _).mpr rfl]
            refine lv_if_eq (tgt := 693) hx hb dL_law_688 (by decide) (fun c688 => ?_) (fun c688 => ?_)
            · have c688 : 0 = 0 := g_eqT 0 0 (by omega) (by omega) c688
              refine lv_goto (tgt := 1241) hx hb dL_law_693 (by decide) ?_
              exact kk rn (cutL L0 b9 e9) L1 _ _ _ _ _ ⟨g1_1, f1, n2, f2, nI ((cutL L0 b9 e9).length), g3_2, 0, s1_4, l1_5, nI ((cutL ((V2 L0 L1) 0) b9 e9).length), r1_6, n1_7, ct, il, gf, vp_updL fo 0 (nI ((cutL L0 b9 e9).length)).toInt64, hP, hD, hS, hw_3, hR1, hk, hl1, hrn, hr6, okL_cut hrn hk0 (show b9 < L0.length by omega), hk1, MW_c0 hw_8⟩ (by omega) (by omega) (lv_sub hl [2, 3, 4, 5, 6] rfl)
            · exact absurd (by decide) c688
        · exact absurd (by decide) c671
      · refine lv_aload_n hx hb dL_law_640 rfl (lv_at hl 3 rfl) ?_
        refine lv_aload_n hx hb dL_law_641 rfl (lv_at hl 4 rfl) ?_
        refine lv_iload hx hb dL_law_642 (lv_at hl 0 rfl) ?_
        refine lv_iconst (v := 1) hx hb dL_law_644 (by decide) ?_
        refine lv_iadd hx hb dL_law_645 ?_
        rw [show (nI i) + 1 = nI (i + 1) from nI_add i 1]
        refine va_sld hx hb hX hbl hbA hS (vp_in_nI (by omega) (by omega)) dL_law_646 ?_
        rw [show (nI (i + 1)).toNatClampNeg = i + 1 from nI_clamp (by omega)]
        rw [h1]
        refine lv_aload_n hx hb dL_law_647 rfl (lv_at hl 1 rfl) ?_
        refine g_LS (As := [.ref x0, .int (nI 0), .ref o]) (rest := []) ⟨hx, hb, hml, hown, hts⟩ (mt_L_cut_2b_0 l htr dC dI cA cL H.size x0 r0 r1 r2 r3 rn a0 L0 f0 b9 e9 o fo hR0 hen hb9 (by omega)) (vx_cwSW 3 hts gL_law_L_cut rfl rfl rfl hdL_cut ⟨Nat.le_of_ble_eq_true rfl, Nat.le_of_ble_eq_true rfl⟩) hP hKl hD hS hA hZ [0, 1, 2, 15] (by decide) rfl rfl hl.1 rfl (Nat.le_of_ble_eq_true rfl) dL_law_648 hc1 hs1 (fun u9 => [(x0, .inr (1, [.ref r0, .ref r1, .ref r2, .ref r3, .int (nI rn)])), (r0, .inr (0, [.ref a0, .int (nI L0.length)])), (a0, .inl (cA, (100, .inl f0))), (r1, .inr (0, [.ref a1, .int (nI L1.length)])), (a1, .inl (cA, (100, .inl f1))), (r2, .inr (0, [.ref a2, .int n2])), (a2, .inl (cA, (100, .inl f2))), (r3, .inr (0, [.ref a3, .int n3])), (a3, .inl (cA, (100, .inl f3))), (y0, .inr (2, [.int tv, .int (nI rn), .ref q1, .ref q2, .int mn, .ref q3, .ref q4, .int ct, .int il, .ref q5])), (q1, .inl (cA, (2, .inl sf))), (q2, .inl (cA, (60, .inl lf))), (q3, .inl (cA, (320, .inl rf))), (q4, .inl (cA, (320, .inl nf))), (q5, .inl (cA, (6, .inl gf))), (o, .inl (cL, (1, .inr (.inl fo))))]) (fun _ => rfl) (fun _ => rfl) (fun u H locs hw_1 hP hD hS => ?_)
        have hP : va_P (dC, dI) vwCl [(x0, .inr (1, [.ref r0, .ref r1, .ref r2, .ref r3, .int (nI rn)])), (r0, .inr (0, [.ref a0, .int (nI L0.length)])), (a0, .inl (cA, (100, .inl f0))), (r1, .inr (0, [.ref a1, .int (nI L1.length)])), (a1, .inl (cA, (100, .inl f1))), (r2, .inr (0, [.ref a2, .int n2])), (a2, .inl (cA, (100, .inl f2))), (r3, .inr (0, [.ref a3, .int n3])), (a3, .inl (cA, (100, .inl f3))), (y0, .inr (2, [.int tv, .int (nI rn), .ref q1, .ref q2, .int mn, .ref q3, .ref q4, .int ct, .int il, .ref q5])), (q1, .inl (cA, (2, .inl sf))), (q2, .inl (cA, (60, .inl lf))), (q3, .inl (cA, (320, .inl rf))), (q4, .inl (cA, (320, .inl nf))), (q5, .inl (cA, (6, .inl gf))), (o, .inl (cL, (1, .inr (.inl fo))))] H := hP
        have hD : va_D A [(x0, .inr (1, [.ref r0, .ref r1, .ref r2, .ref r3, .int (nI rn)])), (r0, .inr (0, [.ref a0, .int (nI L0.length)])), (a0, .inl (cA, (100, .inl f0))), (r1, .inr (0, [.ref a1, .int (nI L1.length)])), (a1, .inl (cA, (100, .inl f1))), (r2, .inr (0, [.ref a2, .int n2])), (a2, .inl (cA, (100, .inl f2))), (r3, .inr (0, [.ref a3, .int n3])), (a3, .inl (cA, (100, .inl f3))), (y0, .inr (2, [.int tv, .int (nI rn), .ref q1, .ref q2, .int mn, .ref q3, .ref q4, .int ct, .int il, .ref q5])), (q1, .inl (cA, (2, .inl sf))), (q2, .inl (cA, (60, .inl lf))), (q3, .inl (cA, (320, .inl rf))), (q4, .inl (cA, (320, .inl nf))), (q5, .inl (cA, (6, .inl gf))), (o, .inl (cL, (1, .inr (.inl fo))))] := hD
        refine lv_istore (lv' := [(5, .int 2), (4, .int (nI i)), (3, .ref o), (2, .ref y0), (1, .ref x0), (0, .ref b)]) hx hb dL_law_651 hl (by decide) rfl (fun ls hl => ?_)
        refine lv_aload_n hx hb dL_law_653 rfl (lv_at hl 3 rfl) ?_
        refine lv_aload_n hx hb dL_law_654 rfl (lv_at hl 5 rfl) ?_
        refine lv_iload hx hb dL_law_655 (lv_at hl 1 rfl) ?_
        refine lv_iconst (v := 1) hx hb dL_law_657 (by decide) ?_
        refine lv_iadd hx hb dL_law_658 ?_
        rw [show (nI i) + 1 = nI (i + 1) from nI_add i 1]
        refine va_sld hx hb hX hbl hbA hS (vp_in_nI (by omega) (by omega)) dL_law_659 ?_
        rw [show (nI (i + 1)).toNatClampNeg = i + 1 from nI_clamp (by omega)]
        rw [h1]
        refine g_MVi (As := [.int (nI 0)]) (rest := []) ⟨hx, hb, hml, hown, hts⟩ (mt_X2_cut_2b l dC dI cA H.size y0 q1 q2 q3 q4 q5 rn tv sf lf mn rf nf ct il gf (V2 L0 L1) 0 b9 e9 hW (by omega) hrn hk0 hen hb9 (show 30 < (cutL L0 b9 e9).length from by omega)) (cwV 1 hts gL_law_X2_cut rfl rfl rfl hdX2_cut ⟨Nat.le_of_ble_eq_true rfl, Nat.le_of_ble_eq_true rfl⟩) hP hK hD hS hA [9, 10, 11, 12, 13, 14] (by decide) rfl (va_recv hK hP (ci := 2) (q0 := 9) rfl rfl) rfl hl.1 rfl (Nat.le_of_ble_eq_true rfl) dL_law_660 hc1 hs1 (fun u9 => [(x0, .inr (1, [.ref r0, .ref r1, .ref r2, .ref r3, .int (nI rn)])), (r0, .inr (0, [.ref a0, .int (nI L0.length)])), (a0, .inl (cA, (100, .inl f0))), (r1, .inr (0, [.ref a1, .int (nI L1.length)])), (a1, .inl (cA, (100, .inl f1))), (r2, .inr (0, [.ref a2, .int n2])), (a2, .inl (cA, (100, .inl f2))), (r3, .inr (0, [.ref a3, .int n3])), (a3, .inl (cA, (100, .inl f3))), (y0, .inr (2, [.int 2, .int (nI rn), .ref q1, .ref q2, .int (nI (((V2 L0 L1) 0).length)), .ref q3, .ref q4, .int ct, .int il, .ref q5])), (q1, .inl (cA, (2, .inl sf))), (q2, .inl (cA, (60, .inl lf))), (q3, .inl (cA, (320, .inl u9))), (q4, .inl (cA, (320, .inl nf))), (q5, .inl (cA, (6, .inl gf))), (o, .inl (cL, (1, .inr (.inl fo))))]) (fun _ => rfl) (fun _ => rfl) (fun u H locs hw_3 hP hD hS => ?_)
        obtain ⟨r1_2, rfl⟩ : ∃ z, z = u := ⟨_, rfl⟩
        have hw_3 : True := hw_3
        have hP : va_P (dC, dI) vwCl [(x0, .inr (1, [.ref r0, .ref r1, .ref r2, .ref r3, .int (nI rn)])), (r0, .inr (0, [.ref a0, .int (nI L0.length)])), (a0, .inl (cA, (100, .inl f0))), (r1, .inr (0, [.ref a1, .int (nI L1.length)])), (a1, .inl (cA, (100, .inl f1))), (r2, .inr (0, [.ref a2, .int n2])), (a2, .inl (cA, (100, .inl f2))), (r3, .inr (0, [.ref a3, .int n3])), (a3, .inl (cA, (100, .inl f3))), (y0, .inr (2, [.int 2, .int (nI rn), .ref q1, .ref q2, .int (nI (((V2 L0 L1) 0).length)), .ref q3, .ref q4, .int ct, .int il, .ref q5])), (q1, .inl (cA, (2, .inl sf))), (q2, .inl (cA, (60, .inl lf))), (q3, .inl (cA, (320, .inl r1_2))), (q4, .inl (cA, (320, .inl nf))), (q5, .inl (cA, (6, .inl gf))), (o, .inl (cL, (1, .inr (.inl fo))))] H := hP
        have hD : va_D A [(x0, .inr (1, [.ref r0, .ref r1, .ref r2, .ref r3, .int (nI rn)])), (r0, .inr (0, [.ref a0, .int (nI L0.length)])), (a0, .inl (cA, (100, .inl f0))), (r1, .inr (0, [.ref a1, .int (nI L1.length)])), (a1, .inl (cA, (100, .inl f1))), (r2, .inr (0, [.ref a2, .int n2])), (a2, .inl (cA, (100, .inl f2))), (r3, .inr (0, [.ref a3, .int n3])), (a3, .inl (cA, (100, .inl f3))), (y0, .inr (2, [.int 2, .int (nI rn), .ref q1, .ref q2, .int (nI (((V2 L0 L1) 0).length)), .ref q3, .ref q4, .int ct, .int il, .ref q5])), (q1, .inl (cA, (2, .inl sf))), (q2, .inl (cA, (60, .inl lf))), (q3, .inl (cA, (320, .inl r1_2))), (q4, .inl (cA, (320, .inl nf))), (q5, .inl (cA, (6, .inl gf))), (o, .inl (cL, (1, .inr (.inl fo))))] := hD
        refine lv_istore (lv' := [(6, .int 0), (5, .int 2), (4, .int (nI i)), (3, .ref o), (2, .ref y0), (1, .ref x0), (0, .ref b)]) hx hb dL_law_663 hl (by decide) rfl (fun ls hl => ?_)
        refine lv_aload_n hx hb dL_law_665 rfl (lv_at hl 4 rfl) ?_
        refine g_RVi (As := []) (rest := []) ⟨hx, hb, hml, hown, hts⟩ (mt_X2_thrown l dC dI cA H.size y0 q1 q2 q3 q4 q5 rn 2 sf lf (nI (((V2 L0 L1) 0).length)) r1_2 nf ct il gf) (cwV 0 hts gL_law_X2_thrown rfl rfl rfl hdX2_thrown ⟨Nat.le_of_ble_eq_true rfl, Nat.le_of_ble_eq_true rfl⟩) hP hK hD [9, 10, 11, 12, 13, 14] (by decide) rfl (va_recv hK hP (ci := 2) (q0 := 9) rfl rfl) rfl hl.1 rfl (Nat.le_of_ble_eq_true rfl) dL_law_666 hc1 hs1 ?_
        refine lv_iload hx hb dL_law_669 (lv_at hl 1 rfl) ?_
        refine lv_icmp_eq (tgt := 676) hx hb dL_law_671 (by decide) (fun c671 => ?_) (fun c671 => ?_)
        · refine lv_iload hx hb dL_law_676 (lv_at hl 1 rfl) ?_
          refine lv_if_ne (tgt := 693) hx hb dL_law_678 (by decide) (fun c678 => ?_) (fun c678 => ?_)
          · have c678 : ¬ 2 = 0 := g_neT 2 0 (by omega) (by omega) c678
            refine lv_goto (tgt := 1241) hx hb dL_law_693 (by decide) ?_
            exact kk rn L0 L1 _ _ _ _ _ ⟨f0, f1, n2, f2, n3, f3, 2, sf, lf, nI (((V2 L0 L1) 0).length), r1_2, nf, ct, il, gf, fo, hP, hD, hS, hR0, hR1, hl0, hl1, hrn, hr6, hk0, hk1, hW⟩ (by omega) (by omega) (lv_sub hl [2, 3, 4, 5, 6] rfl)
          · exact absurd c678 (by decide)
        · exact absurd (by decide) c671
  · rcases hen : enF L1 0 with _ | e9
    · refine lv_aload_n hx hb dL_law_640 rfl (lv_at hl 3 rfl) ?_
      refine lv_aload_n hx hb dL_law_641 rfl (lv_at hl 4 rfl) ?_
      refine lv_iload hx hb dL_law_642 (lv_at hl 0 rfl) ?_
      refine lv_iconst (v := 1) hx hb dL_law_644 (by decide) ?_
      refine lv_iadd hx hb dL_law_645 ?_
      rw [show (nI i) + 1 = nI (i + 1) from nI_add i 1]
      refine va_sld hx hb hX hbl hbA hS (vp_in_nI (by omega) (by omega)) dL_law_646 ?_
      rw [show (nI (i + 1)).toNatClampNeg = i + 1 from nI_clamp (by omega)]
      rw [h1]
      refine lv_aload_n hx hb dL_law_647 rfl (lv_at hl 1 rfl) ?_
      refine g_LS (As := [.ref x0, .int (nI 1), .ref o]) (rest := []) ⟨hx, hb, hml, hown, hts⟩ (mt_L_cut_2_1 l htr dC dI cA cL H.size x0 r0 r1 r2 r3 rn a1 L1 f1 o fo hR1 hen) (vx_cwSW 3 hts gL_law_L_cut rfl rfl rfl hdL_cut ⟨Nat.le_of_ble_eq_true rfl, Nat.le_of_ble_eq_true rfl⟩) hP hKl hD hS hA hZ [0, 3, 4, 15] (by decide) rfl rfl hl.1 rfl (Nat.le_of_ble_eq_true rfl) dL_law_648 hc1 hs1 (fun u9 => [(x0, .inr (1, [.ref r0, .ref r1, .ref r2, .ref r3, .int (nI rn)])), (r0, .inr (0, [.ref a0, .int (nI L0.length)])), (a0, .inl (cA, (100, .inl f0))), (r1, .inr (0, [.ref a1, .int (nI L1.length)])), (a1, .inl (cA, (100, .inl f1))), (r2, .inr (0, [.ref a2, .int n2])), (a2, .inl (cA, (100, .inl f2))), (r3, .inr (0, [.ref a3, .int n3])), (a3, .inl (cA, (100, .inl f3))), (y0, .inr (2, [.int tv, .int (nI rn), .ref q1, .ref q2, .int mn, .ref q3, .ref q4, .int ct, .int il, .ref q5])), (q1, .inl (cA, (2, .inl sf))), (q2, .inl (cA, (60, .inl lf))), (q3, .inl (cA, (320, .inl rf))), (q4, .inl (cA, (320, .inl nf))), (q5, .inl (cA, (6, .inl gf))), (o, .inl (cL, (1, .inr (.inl fo))))]) (fun _ => rfl) (fun _ => rfl) (fun u H locs hw_1 hP hD hS => ?_)
      have hP : va_P (dC, dI) vwCl [(x0, .inr (1, [.ref r0, .ref r1, .ref r2, .ref r3, .int (nI rn)])), (r0, .inr (0, [.ref a0, .int (nI L0.length)])), (a0, .inl (cA, (100, .inl f0))), (r1, .inr (0, [.ref a1, .int (nI L1.length)])), (a1, .inl (cA, (100, .inl f1))), (r2, .inr (0, [.ref a2, .int n2])), (a2, .inl (cA, (100, .inl f2))), (r3, .inr (0, [.ref a3, .int n3])), (a3, .inl (cA, (100, .inl f3))), (y0, .inr (2, [.int tv, .int (nI rn), .ref q1, .ref q2, .int mn, .ref q3, .ref q4, .int ct, .int il, .ref q5])), (q1, .inl (cA, (2, .inl sf))), (q2, .inl (cA, (60, .inl lf))), (q3, .inl (cA, (320, .inl rf))), (q4, .inl (cA, (320, .inl nf))), (q5, .inl (cA, (6, .inl gf))), (o, .inl (cL, (1, .inr (.inl fo))))] H := hP
      have hD : va_D A [(x0, .inr (1, [.ref r0, .ref r1, .ref r2, .ref r3, .int (nI rn)])), (r0, .inr (0, [.ref a0, .int (nI L0.length)])), (a0, .inl (cA, (100, .inl f0))), (r1, .inr (0, [.ref a1, .int (nI L1.length)])), (a1, .inl (cA, (100, .inl f1))), (r2, .inr (0, [.ref a2, .int n2])), (a2, .inl (cA, (100, .inl f2))), (r3, .inr (0, [.ref a3, .int n3])), (a3, .inl (cA, (100, .inl f3))), (y0, .inr (2, [.int tv, .int (nI rn), .ref q1, .ref q2, .int mn, .ref q3, .ref q4, .int ct, .int il, .ref q5])), (q1, .inl (cA, (2, .inl sf))), (q2, .inl (cA, (60, .inl lf))), (q3, .inl (cA, (320, .inl rf))), (q4, .inl (cA, (320, .inl nf))), (q5, .inl (cA, (6, .inl gf))), (o, .inl (cL, (1, .inr (.inl fo))))] := hD
      refine lv_istore (lv' := [(5, .int 2), (4, .int (nI i)), (3, .ref o), (2, .ref y0), (1, .ref x0), (0, .ref b)]) hx hb dL_law_651 hl (by decide) rfl (fun ls hl => ?_)
      refine lv_aload_n hx hb dL_law_653 rfl (lv_at hl 3 rfl) ?_
      refine lv_aload_n hx hb dL_law_654 rfl (lv_at hl 5 rfl) ?_
      refine lv_iload hx hb dL_law_655 (lv_at hl 1 rfl) ?_
      refine lv_iconst (v := 1) hx hb dL_law_657 (by decide) ?_
      refine lv_iadd hx hb dL_law_658 ?_
      rw [show (nI i) + 1 = nI (i + 1) from nI_add i 1]
      refine va_sld hx hb hX hbl hbA hS (vp_in_nI (by omega) (by omega)) dL_law_659 ?_
      rw [show (nI (i + 1)).toNatClampNeg = i + 1 from nI_clamp (by omega)]
      rw [h1]
      refine g_MVi (As := [.int (nI 1)]) (rest := []) ⟨hx, hb, hml, hown, hts⟩ (mt_X2_cut_2 l dC dI cA H.size y0 q1 q2 q3 q4 q5 rn tv sf lf mn rf nf ct il gf (V2 L0 L1) 1 hW (by omega) hrn hk1 hen) (cwV 1 hts gL_law_X2_cut rfl rfl rfl hdX2_cut ⟨Nat.le_of_ble_eq_true rfl, Nat.le_of_ble_eq_true rfl⟩) hP hK hD hS hA [9, 10, 11, 12, 13, 14] (by decide) rfl (va_recv hK hP (ci := 2) (q0 := 9) rfl rfl) rfl hl.1 rfl (Nat.le_of_ble_eq_true rfl) dL_law_660 hc1 hs1 (fun u9 => [(x0, .inr (1, [.ref r0, .ref r1, .ref r2, .ref r3, .int (nI rn)])), (r0, .inr (0, [.ref a0, .int (nI L0.length)])), (a0, .inl (cA, (100, .inl f0))), (r1, .inr (0, [.ref a1, .int (nI L1.length)])), (a1, .inl (cA, (100, .inl f1))), (r2, .inr (0, [.ref a2, .int n2])), (a2, .inl (cA, (100, .inl f2))), (r3, .inr (0, [.ref a3, .int n3])), (a3, .inl (cA, (100, .inl f3))), (y0, .inr (2, [.int 2, .int (nI rn), .ref q1, .ref q2, .int (nI (((V2 L0 L1) 1).length)), .ref q3, .ref q4, .int ct, .int il, .ref q5])), (q1, .inl (cA, (2, .inl sf))), (q2, .inl (cA, (60, .inl lf))), (q3, .inl (cA, (320, .inl u9))), (q4, .inl (cA, (320, .inl nf))), (q5, .inl (cA, (6, .inl gf))), (o, .inl (cL, (1, .inr (.inl fo))))]) (fun _ => rfl) (fun _ => rfl) (fun u H locs hw_3 hP hD hS => ?_)
      obtain ⟨r1_2, rfl⟩ : ∃ z, z = u := ⟨_, rfl⟩
      have hw_3 : True := hw_3
      have hP : va_P (dC, dI) vwCl [(x0, .inr (1, [.ref r0, .ref r1, .ref r2, .ref r3, .int (nI rn)])), (r0, .inr (0, [.ref a0, .int (nI L0.length)])), (a0, .inl (cA, (100, .inl f0))), (r1, .inr (0, [.ref a1, .int (nI L1.length)])), (a1, .inl (cA, (100, .inl f1))), (r2, .inr (0, [.ref a2, .int n2])), (a2, .inl (cA, (100, .inl f2))), (r3, .inr (0, [.ref a3, .int n3])), (a3, .inl (cA, (100, .inl f3))), (y0, .inr (2, [.int 2, .int (nI rn), .ref q1, .ref q2, .int (nI (((V2 L0 L1) 1).length)), .ref q3, .ref q4, .int ct, .int il, .ref q5])), (q1, .inl (cA, (2, .inl sf))), (q2, .inl (cA, (60, .inl lf))), (q3, .inl (cA, (320, .inl r1_2))), (q4, .inl (cA, (320, .inl nf))), (q5, .inl (cA, (6, .inl gf))), (o, .inl (cL, (1, .inr (.inl fo))))] H := hP
      have hD : va_D A [(x0, .inr (1, [.ref r0, .ref r1, .ref r2, .ref r3, .int (nI rn)])), (r0, .inr (0, [.ref a0, .int (nI L0.length)])), (a0, .inl (cA, (100, .inl f0))), (r1, .inr (0, [.ref a1, .int (nI L1.length)])), (a1, .inl (cA, (100, .inl f1))), (r2, .inr (0, [.ref a2, .int n2])), (a2, .inl (cA, (100, .inl f2))), (r3, .inr (0, [.ref a3, .int n3])), (a3, .inl (cA, (100, .inl f3))), (y0, .inr (2, [.int 2, .int (nI rn), .ref q1, .ref q2, .int (nI (((V2 L0 L1) 1).length)), .ref q3, .ref q4, .int ct, .int il, .ref q5])), (q1, .inl (cA, (2, .inl sf))), (q2, .inl (cA, (60, .inl lf))), (q3, .inl (cA, (320, .inl r1_2))), (q4, .inl (cA, (320, .inl nf))), (q5, .inl (cA, (6, .inl gf))), (o, .inl (cL, (1, .inr (.inl fo))))] := hD
      refine lv_istore (lv' := [(6, .int 0), (5, .int 2), (4, .int (nI i)), (3, .ref o), (2, .ref y0), (1, .ref x0), (0, .ref b)]) hx hb dL_law_663 hl (by decide) rfl (fun ls hl => ?_)
      refine lv_aload_n hx hb dL_law_665 rfl (lv_at hl 4 rfl) ?_
      refine g_RVi (As := []) (rest := []) ⟨hx, hb, hml, hown, hts⟩ (mt_X2_thrown l dC dI cA H.size y0 q1 q2 q3 q4 q5 rn 2 sf lf (nI (((V2 L0 L1) 1).length)) r1_2 nf ct il gf) (cwV 0 hts gL_law_X2_thrown rfl rfl rfl hdX2_thrown ⟨Nat.le_of_ble_eq_true rfl, Nat.le_of_ble_eq_true rfl⟩) hP hK hD [9, 10, 11, 12, 13, 14] (by decide) rfl (va_recv hK hP (ci := 2) (q0 := 9) rfl rfl) rfl hl.1 rfl (Nat.le_of_ble_eq_true rfl) dL_law_666 hc1 hs1 ?_
      refine lv_iload hx hb dL_law_669 (lv_at hl 1 rfl) ?_
      refine lv_icmp_eq (tgt := 676) hx hb dL_law_671 (by decide) (fun c671 => ?_) (fun c671 => ?_)
      · refine lv_iload hx hb dL_law_676 (lv_at hl 1 rfl) ?_
        refine lv_if_ne (tgt := 693) hx hb dL_law_678 (by decide) (fun c678 => ?_) (fun c678 => ?_)
        · have c678 : ¬ 2 = 0 := g_neT 2 0 (by omega) (by omega) c678
          refine lv_goto (tgt := 1241) hx hb dL_law_693 (by decide) ?_
          exact kk rn L0 L1 _ _ _ _ _ ⟨f0, f1, n2, f2, n3, f3, 2, sf, lf, nI (((V2 L0 L1) 1).length), r1_2, nf, ct, il, gf, fo, hP, hD, hS, hR0, hR1, hl0, hl1, hrn, hr6, hk0, hk1, hW⟩ (by omega) (by omega) (lv_sub hl [2, 3, 4, 5, 6] rfl)
        · exact absurd c678 (by decide)
      · exact absurd (by decide) c671
    · obtain ⟨-, he2, ⟨b9, hb9⟩, -⟩ := enF_spec hen
      have hbl9 := bg_lt hb9
      by_cases hk : (cutL L1 b9 e9).length ≤ 30
      · refine lv_aload_n hx hb dL_law_640 rfl (lv_at hl 3 rfl) ?_
        refine lv_aload_n hx hb dL_law_641 rfl (lv_at hl 4 rfl) ?_
        refine lv_iload hx hb dL_law_642 (lv_at hl 0 rfl) ?_
        refine lv_iconst (v := 1) hx hb dL_law_644 (by decide) ?_
        refine lv_iadd hx hb dL_law_645 ?_
        rw [show (nI i) + 1 = nI (i + 1) from nI_add i 1]
        refine va_sld hx hb hX hbl hbA hS (vp_in_nI (by omega) (by omega)) dL_law_646 ?_
        rw [show (nI (i + 1)).toNatClampNeg = i + 1 from nI_clamp (by omega)]
        rw [h1]
        refine lv_aload_n hx hb dL_law_647 rfl (lv_at hl 1 rfl) ?_
        refine g_LS (As := [.ref x0, .int (nI 1), .ref o]) (rest := []) ⟨hx, hb, hml, hown, hts⟩ (mt_L_cut1 l htr dC dI cA cL H.size x0 r0 r1 r2 r3 rn a1 L1 f1 a3 n3 f3 b9 e9 o fo hR1 hen hb9 hk) (vx_cwSW 3 hts gL_law_L_cut rfl rfl rfl hdL_cut ⟨Nat.le_of_ble_eq_true rfl, Nat.le_of_ble_eq_true rfl⟩) hP hKl hD hS hA hZ [0, 3, 4, 7, 8, 15] (by decide) rfl rfl hl.1 rfl (Nat.le_of_ble_eq_true rfl) dL_law_648 hc0 hs0 (fun u9 => [(x0, .inr (1, [.ref r0, .ref r1, .ref r2, .ref r3, .int (nI rn)])), (r0, .inr (0, [.ref a0, .int (nI L0.length)])), (a0, .inl (cA, (100, .inl f0))), (r1, .inr (0, [.ref a1, .int (nI ((cutL L1 b9 e9).length))])), (a1, .inl (cA, (100, .inl u9.1))), (r2, .inr (0, [.ref a2, .int n2])), (a2, .inl (cA, (100, .inl f2))), (r3, .inr (0, [.ref a3, .int (nI ((cutL L1 b9 e9).length))])), (a3, .inl (cA, (100, .inl u9.2))), (y0, .inr (2, [.int tv, .int (nI rn), .ref q1, .ref q2, .int mn, .ref q3, .ref q4, .int ct, .int il, .ref q5])), (q1, .inl (cA, (2, .inl sf))), (q2, .inl (cA, (60, .inl lf))), (q3, .inl (cA, (320, .inl rf))), (q4, .inl (cA, (320, .inl nf))), (q5, .inl (cA, (6, .inl gf))), (o, .inl (cL, (1, .inr (.inl (vp_updL fo 0 (nI ((cutL L1 b9 e9).length)).toInt64)))))]) (fun _ => rfl) (fun _ => rfl) (fun u H locs hw_3 hP hD hS => ?_)
        obtain ⟨g1_1, g3_2⟩ := u
        have hw_3 : RI (cutL L1 b9 e9) g1_1 := hw_3
        have hP : va_P (dC, dI) vwCl [(x0, .inr (1, [.ref r0, .ref r1, .ref r2, .ref r3, .int (nI rn)])), (r0, .inr (0, [.ref a0, .int (nI L0.length)])), (a0, .inl (cA, (100, .inl f0))), (r1, .inr (0, [.ref a1, .int (nI ((cutL L1 b9 e9).length))])), (a1, .inl (cA, (100, .inl g1_1))), (r2, .inr (0, [.ref a2, .int n2])), (a2, .inl (cA, (100, .inl f2))), (r3, .inr (0, [.ref a3, .int (nI ((cutL L1 b9 e9).length))])), (a3, .inl (cA, (100, .inl g3_2))), (y0, .inr (2, [.int tv, .int (nI rn), .ref q1, .ref q2, .int mn, .ref q3, .ref q4, .int ct, .int il, .ref q5])), (q1, .inl (cA, (2, .inl sf))), (q2, .inl (cA, (60, .inl lf))), (q3, .inl (cA, (320, .inl rf))), (q4, .inl (cA, (320, .inl nf))), (q5, .inl (cA, (6, .inl gf))), (o, .inl (cL, (1, .inr (.inl (vp_updL fo 0 (nI ((cutL L1 b9 e9).length)).toInt64)))))] H := hP
        have hD : va_D A [(x0, .inr (1, [.ref r0, .ref r1, .ref r2, .ref r3, .int (nI rn)])), (r0, .inr (0, [.ref a0, .int (nI L0.length)])), (a0, .inl (cA, (100, .inl f0))), (r1, .inr (0, [.ref a1, .int (nI ((cutL L1 b9 e9).length))])), (a1, .inl (cA, (100, .inl g1_1))), (r2, .inr (0, [.ref a2, .int n2])), (a2, .inl (cA, (100, .inl f2))), (r3, .inr (0, [.ref a3, .int (nI ((cutL L1 b9 e9).length))])), (a3, .inl (cA, (100, .inl g3_2))), (y0, .inr (2, [.int tv, .int (nI rn), .ref q1, .ref q2, .int mn, .ref q3, .ref q4, .int ct, .int il, .ref q5])), (q1, .inl (cA, (2, .inl sf))), (q2, .inl (cA, (60, .inl lf))), (q3, .inl (cA, (320, .inl rf))), (q4, .inl (cA, (320, .inl nf))), (q5, .inl (cA, (6, .inl gf))), (o, .inl (cL, (1, .inr (.inl (vp_updL fo 0 (nI ((cutL L1 b9 e9).length)).toInt64)))))] := hD
        refine lv_istore (lv' := [(5, .int 0), (4, .int (nI i)), (3, .ref o), (2, .ref y0), (1, .ref x0), (0, .ref b)]) hx hb dL_law_651 hl (by decide) rfl (fun ls hl => ?_)
        refine lv_aload_n hx hb dL_law_653 rfl (lv_at hl 3 rfl) ?_
        refine lv_aload_n hx hb dL_law_654 rfl (lv_at hl 5 rfl) ?_
        refine lv_iload hx hb dL_law_655 (lv_at hl 1 rfl) ?_
        refine lv_iconst (v := 1) hx hb dL_law_657 (by decide) ?_
        refine lv_iadd hx hb dL_law_658 ?_
        rw [show (nI i) + 1 = nI (i + 1) from nI_add i 1]
        refine va_sld hx hb hX hbl hbA hS (vp_in_nI (by omega) (by omega)) dL_law_659 ?_
        rw [show (nI (i + 1)).toNatClampNeg = i + 1 from nI_clamp (by omega)]
        rw [h1]
        refine g_MVi (As := [.int (nI 1)]) (rest := []) ⟨hx, hb, hml, hown, hts⟩ (mt_X2_cut l dC dI cA H.size y0 q1 q2 q3 q4 q5 rn tv sf lf mn rf nf ct il gf (V2 L0 L1) 1 b9 e9 hW (by omega) hrn hk1 hen hb9 hk) (cwV 1 hts gL_law_X2_cut rfl rfl rfl hdX2_cut ⟨Nat.le_of_ble_eq_true rfl, Nat.le_of_ble_eq_true rfl⟩) hP hK hD hS hA [9, 10, 11, 12, 13, 14] (by decide) rfl (va_recv hK hP (ci := 2) (q0 := 9) rfl rfl) rfl hl.1 rfl (Nat.le_of_ble_eq_true rfl) dL_law_660 hc0 hs0 (fun u9 => [(x0, .inr (1, [.ref r0, .ref r1, .ref r2, .ref r3, .int (nI rn)])), (r0, .inr (0, [.ref a0, .int (nI L0.length)])), (a0, .inl (cA, (100, .inl f0))), (r1, .inr (0, [.ref a1, .int (nI ((cutL L1 b9 e9).length))])), (a1, .inl (cA, (100, .inl g1_1))), (r2, .inr (0, [.ref a2, .int n2])), (a2, .inl (cA, (100, .inl f2))), (r3, .inr (0, [.ref a3, .int (nI ((cutL L1 b9 e9).length))])), (a3, .inl (cA, (100, .inl g3_2))), (y0, .inr (2, [.int 0, .int (nI rn), .ref q1, .ref q2, .int (nI ((cutL ((V2 L0 L1) 1) b9 e9).length)), .ref q3, .ref q4, .int ct, .int il, .ref q5])), (q1, .inl (cA, (2, .inl u9.1))), (q2, .inl (cA, (60, .inl u9.2.1))), (q3, .inl (cA, (320, .inl u9.2.2.1))), (q4, .inl (cA, (320, .inl u9.2.2.2))), (q5, .inl (cA, (6, .inl gf))), (o, .inl (cL, (1, .inr (.inl (vp_updL fo 0 (nI ((cutL L1 b9 e9).length)).toInt64)))))]) (fun _ => rfl) (fun _ => rfl) (fun u H locs hw_8 hP hD hS => ?_)
        obtain ⟨s1_4, l1_5, r1_6, n1_7⟩ := u
        have hw_8 : MW (upW (V2 L0 L1) 1 (cutL ((V2 L0 L1) 1) b9 e9)) s1_4 l1_5 := hw_8
        have hP : va_P (dC, dI) vwCl [(x0, .inr (1, [.ref r0, .ref r1, .ref r2, .ref r3, .int (nI rn)])), (r0, .inr (0, [.ref a0, .int (nI L0.length)])), (a0, .inl (cA, (100, .inl f0))), (r1, .inr (0, [.ref a1, .int (nI ((cutL L1 b9 e9).length))])), (a1, .inl (cA, (100, .inl g1_1))), (r2, .inr (0, [.ref a2, .int n2])), (a2, .inl (cA, (100, .inl f2))), (r3, .inr (0, [.ref a3, .int (nI ((cutL L1 b9 e9).length))])), (a3, .inl (cA, (100, .inl g3_2))), (y0, .inr (2, [.int 0, .int (nI rn), .ref q1, .ref q2, .int (nI ((cutL ((V2 L0 L1) 1) b9 e9).length)), .ref q3, .ref q4, .int ct, .int il, .ref q5])), (q1, .inl (cA, (2, .inl s1_4))), (q2, .inl (cA, (60, .inl l1_5))), (q3, .inl (cA, (320, .inl r1_6))), (q4, .inl (cA, (320, .inl n1_7))), (q5, .inl (cA, (6, .inl gf))), (o, .inl (cL, (1, .inr (.inl (vp_updL fo 0 (nI ((cutL L1 b9 e9).length)).toInt64)))))] H := hP
        have hD : va_D A [(x0, .inr (1, [.ref r0, .ref r1, .ref r2, .ref r3, .int (nI rn)])), (r0, .inr (0, [.ref a0, .int (nI L0.length)])), (a0, .inl (cA, (100, .inl f0))), (r1, .inr (0, [.ref a1, .int (nI ((cutL L1 b9 e9).length))])), (a1, .inl (cA, (100, .inl g1_1))), (r2, .inr (0, [.ref a2, .int n2])), (a2, .inl (cA, (100, .inl f2))), (r3, .inr (0, [.ref a3, .int (nI ((cutL L1 b9 e9).length))])), (a3, .inl (cA, (100, .inl g3_2))), (y0, .inr (2, [.int 0, .int (nI rn), .ref q1, .ref q2, .int (nI ((cutL ((V2 L0 L1) 1) b9 e9).length)), .ref q3, .ref q4, .int ct, .int il, .ref q5])), (q1, .inl (cA, (2, .inl s1_4))), (q2, .inl (cA, (60, .inl l1_5))), (q3, .inl (cA, (320, .inl r1_6))), (q4, .inl (cA, (320, .inl n1_7))), (q5, .inl (cA, (6, .inl gf))), (o, .inl (cL, (1, .inr (.inl (vp_updL fo 0 (nI ((cutL L1 b9 e9).length)).toInt64)))))] := hD
        refine lv_istore (lv' := [(6, .int (nI ((cutL ((V2 L0 L1) 1) b9 e9).length))), (5, .int 0), (4, .int (nI i)), (3, .ref o), (2, .ref y0), (1, .ref x0), (0, .ref b)]) hx hb dL_law_663 hl (by decide) rfl (fun ls hl => ?_)
        refine lv_aload_n hx hb dL_law_665 rfl (lv_at hl 4 rfl) ?_
        refine g_RVi (As := []) (rest := []) ⟨hx, hb, hml, hown, hts⟩ (mt_X2_thrown l dC dI cA H.size y0 q1 q2 q3 q4 q5 rn 0 s1_4 l1_5 (nI ((cutL ((V2 L0 L1) 1) b9 e9).length)) r1_6 n1_7 ct il gf) (cwV 0 hts gL_law_X2_thrown rfl rfl rfl hdX2_thrown ⟨Nat.le_of_ble_eq_true rfl, Nat.le_of_ble_eq_true rfl⟩) hP hK hD [9, 10, 11, 12, 13, 14] (by decide) rfl (va_recv hK hP (ci := 2) (q0 := 9) rfl rfl) rfl hl.1 rfl (Nat.le_of_ble_eq_true rfl) dL_law_666 hc0 hs0 ?_
        refine lv_iload hx hb dL_law_669 (lv_at hl 1 rfl) ?_
        refine lv_icmp_eq (tgt := 676) hx hb dL_law_671 (by decide) (fun c671 => ?_) (fun c671 => ?_)
        · refine lv_iload hx hb dL_law_676 (lv_at hl 1 rfl) ?_
          refine lv_if_ne (tgt := 693) hx hb dL_law_678 (by decide) (fun c678 => ?_) (fun c678 => ?_)
          · exact absurd (by decide) c678
          · have c678 : 0 = 0 := g_neF 0 0 (by omega) (by omega) c678
            refine lv_aload_n hx hb dL_law_681 rfl (lv_at hl 3 rfl) ?_
            refine lv_iconst (v := 0) hx hb dL_law_682 (by decide) ?_
            refine va_lald hx hb hKl hP 15 1 rfl rfl (vp_in_nI (n := 0) (by omega) (by decide)) dL_law_683 ?_
            rw [show (0 : Int32).toNatClampNeg = 0 from by decide, pk_uLs]
            refine lv_iload hx hb dL_law_684 (lv_at hl 0 rfl) ?_
            refine lv_i2l (v := (nI ((cutL ((V2 L0 L1) 1) b9 e9).length)).toInt64) hx hb dL_law_686 rfl ?_
            refine W.lcmp hx hb dL_law_687 ?_
            rw [show lg_cmp ((nI ((cutL L1 b9 e9).length)).toInt64) ((nI ((cutL ((V2 L0 L1) 1) b9 e9).length)).toInt64) = 0 from (lg_cmp_eq _ _).mpr rfl]
            refine lv_if_eq (tgt := 693) hx hb dL_law_688 (by decide) (fun c688 => ?_) (fun c688 => ?_)
            · have c688 : 0 = 0 := g_eqT 0 0 (by omega) (by omega) c688
              refine lv_goto (tgt := 1241) hx hb dL_law_693 (by decide) ?_
              exact kk rn L0 (cutL L1 b9 e9) _ _ _ _ _ ⟨f0, g1_1, n2, f2, nI ((cutL L1 b9 e9).length), g3_2, 0, s1_4, l1_5, nI ((cutL ((V2 L0 L1) 1) b9 e9).length), r1_6, n1_7, ct, il, gf, vp_updL fo 0 (nI ((cutL L1 b9 e9).length)).toInt64, hP, hD, hS, hR0, hw_3, hl0, hk, hrn, hr6, hk0, okL_cut hrn hk1 (show b9 < L1.length by omega), MW_c1 hw_8⟩ (by omega) (by omega) (lv_sub hl [2, 3, 4, 5, 6] rfl)
            · exact absurd (by decide) c688
        · exact absurd (by decide) c671
      · refine lv_aload_n hx hb dL_law_640 rfl (lv_at hl 3 rfl) ?_
        refine lv_aload_n hx hb dL_law_641 rfl (lv_at hl 4 rfl) ?_
        refine lv_iload hx hb dL_law_642 (lv_at hl 0 rfl) ?_
        refine lv_iconst (v := 1) hx hb dL_law_644 (by decide) ?_
        refine lv_iadd hx hb dL_law_645 ?_
        rw [show (nI i) + 1 = nI (i + 1) from nI_add i 1]
        refine va_sld hx hb hX hbl hbA hS (vp_in_nI (by omega) (by omega)) dL_law_646 ?_
        rw [show (nI (i + 1)).toNatClampNeg = i + 1 from nI_clamp (by omega)]
        rw [h1]
        refine lv_aload_n hx hb dL_law_647 rfl (lv_at hl 1 rfl) ?_
        refine g_LS (As := [.ref x0, .int (nI 1), .ref o]) (rest := []) ⟨hx, hb, hml, hown, hts⟩ (mt_L_cut_2b_1 l htr dC dI cA cL H.size x0 r0 r1 r2 r3 rn a1 L1 f1 b9 e9 o fo hR1 hen hb9 (by omega)) (vx_cwSW 3 hts gL_law_L_cut rfl rfl rfl hdL_cut ⟨Nat.le_of_ble_eq_true rfl, Nat.le_of_ble_eq_true rfl⟩) hP hKl hD hS hA hZ [0, 3, 4, 15] (by decide) rfl rfl hl.1 rfl (Nat.le_of_ble_eq_true rfl) dL_law_648 hc1 hs1 (fun u9 => [(x0, .inr (1, [.ref r0, .ref r1, .ref r2, .ref r3, .int (nI rn)])), (r0, .inr (0, [.ref a0, .int (nI L0.length)])), (a0, .inl (cA, (100, .inl f0))), (r1, .inr (0, [.ref a1, .int (nI L1.length)])), (a1, .inl (cA, (100, .inl f1))), (r2, .inr (0, [.ref a2, .int n2])), (a2, .inl (cA, (100, .inl f2))), (r3, .inr (0, [.ref a3, .int n3])), (a3, .inl (cA, (100, .inl f3))), (y0, .inr (2, [.int tv, .int (nI rn), .ref q1, .ref q2, .int mn, .ref q3, .ref q4, .int ct, .int il, .ref q5])), (q1, .inl (cA, (2, .inl sf))), (q2, .inl (cA, (60, .inl lf))), (q3, .inl (cA, (320, .inl rf))), (q4, .inl (cA, (320, .inl nf))), (q5, .inl (cA, (6, .inl gf))), (o, .inl (cL, (1, .inr (.inl fo))))]) (fun _ => rfl) (fun _ => rfl) (fun u H locs hw_1 hP hD hS => ?_)
        have hP : va_P (dC, dI) vwCl [(x0, .inr (1, [.ref r0, .ref r1, .ref r2, .ref r3, .int (nI rn)])), (r0, .inr (0, [.ref a0, .int (nI L0.length)])), (a0, .inl (cA, (100, .inl f0))), (r1, .inr (0, [.ref a1, .int (nI L1.length)])), (a1, .inl (cA, (100, .inl f1))), (r2, .inr (0, [.ref a2, .int n2])), (a2, .inl (cA, (100, .inl f2))), (r3, .inr (0, [.ref a3, .int n3])), (a3, .inl (cA, (100, .inl f3))), (y0, .inr (2, [.int tv, .int (nI rn), .ref q1, .ref q2, .int mn, .ref q3, .ref q4, .int ct, .int il, .ref q5])), (q1, .inl (cA, (2, .inl sf))), (q2, .inl (cA, (60, .inl lf))), (q3, .inl (cA, (320, .inl rf))), (q4, .inl (cA, (320, .inl nf))), (q5, .inl (cA, (6, .inl gf))), (o, .inl (cL, (1, .inr (.inl fo))))] H := hP
        have hD : va_D A [(x0, .inr (1, [.ref r0, .ref r1, .ref r2, .ref r3, .int (nI rn)])), (r0, .inr (0, [.ref a0, .int (nI L0.length)])), (a0, .inl (cA, (100, .inl f0))), (r1, .inr (0, [.ref a1, .int (nI L1.length)])), (a1, .inl (cA, (100, .inl f1))), (r2, .inr (0, [.ref a2, .int n2])), (a2, .inl (cA, (100, .inl f2))), (r3, .inr (0, [.ref a3, .int n3])), (a3, .inl (cA, (100, .inl f3))), (y0, .inr (2, [.int tv, .int (nI rn), .ref q1, .ref q2, .int mn, .ref q3, .ref q4, .int ct, .int il, .ref q5])), (q1, .inl (cA, (2, .inl sf))), (q2, .inl (cA, (60, .inl lf))), (q3, .inl (cA, (320, .inl rf))), (q4, .inl (cA, (320, .inl nf))), (q5, .inl (cA, (6, .inl gf))), (o, .inl (cL, (1, .inr (.inl fo))))] := hD
        refine lv_istore (lv' := [(5, .int 2), (4, .int (nI i)), (3, .ref o), (2, .ref y0), (1, .ref x0), (0, .ref b)]) hx hb dL_law_651 hl (by decide) rfl (fun ls hl => ?_)
        refine lv_aload_n hx hb dL_law_653 rfl (lv_at hl 3 rfl) ?_
        refine lv_aload_n hx hb dL_law_654 rfl (lv_at hl 5 rfl) ?_
        refine lv_iload hx hb dL_law_655 (lv_at hl 1 rfl) ?_
        refine lv_iconst (v := 1) hx hb dL_law_657 (by decide) ?_
        refine lv_iadd hx hb dL_law_658 ?_
        rw [show (nI i) + 1 = nI (i + 1) from nI_add i 1]
        refine va_sld hx hb hX hbl hbA hS (vp_in_nI (by omega) (by omega)) dL_law_659 ?_
        rw [show (nI (i + 1)).toNatClampNeg = i + 1 from nI_clamp (by omega)]
        rw [h1]
        refine g_MVi (As := [.int (nI 1)]) (rest := []) ⟨hx, hb, hml, hown, hts⟩ (mt_X2_cut_2b l dC dI cA H.size y0 q1 q2 q3 q4 q5 rn tv sf lf mn rf nf ct il gf (V2 L0 L1) 1 b9 e9 hW (by omega) hrn hk1 hen hb9 (show 30 < (cutL L1 b9 e9).length from by omega)) (cwV 1 hts gL_law_X2_cut rfl rfl rfl hdX2_cut ⟨Nat.le_of_ble_eq_true rfl, Nat.le_of_ble_eq_true rfl⟩) hP hK hD hS hA [9, 10, 11, 12, 13, 14] (by decide) rfl (va_recv hK hP (ci := 2) (q0 := 9) rfl rfl) rfl hl.1 rfl (Nat.le_of_ble_eq_true rfl) dL_law_660 hc1 hs1 (fun u9 => [(x0, .inr (1, [.ref r0, .ref r1, .ref r2, .ref r3, .int (nI rn)])), (r0, .inr (0, [.ref a0, .int (nI L0.length)])), (a0, .inl (cA, (100, .inl f0))), (r1, .inr (0, [.ref a1, .int (nI L1.length)])), (a1, .inl (cA, (100, .inl f1))), (r2, .inr (0, [.ref a2, .int n2])), (a2, .inl (cA, (100, .inl f2))), (r3, .inr (0, [.ref a3, .int n3])), (a3, .inl (cA, (100, .inl f3))), (y0, .inr (2, [.int 2, .int (nI rn), .ref q1, .ref q2, .int (nI (((V2 L0 L1) 1).length)), .ref q3, .ref q4, .int ct, .int il, .ref q5])), (q1, .inl (cA, (2, .inl sf))), (q2, .inl (cA, (60, .inl lf))), (q3, .inl (cA, (320, .inl u9))), (q4, .inl (cA, (320, .inl nf))), (q5, .inl (cA, (6, .inl gf))), (o, .inl (cL, (1, .inr (.inl fo))))]) (fun _ => rfl) (fun _ => rfl) (fun u H locs hw_3 hP hD hS => ?_)
        obtain ⟨r1_2, rfl⟩ : ∃ z, z = u := ⟨_, rfl⟩
        have hw_3 : True := hw_3
        have hP : va_P (dC, dI) vwCl [(x0, .inr (1, [.ref r0, .ref r1, .ref r2, .ref r3, .int (nI rn)])), (r0, .inr (0, [.ref a0, .int (nI L0.length)])), (a0, .inl (cA, (100, .inl f0))), (r1, .inr (0, [.ref a1, .int (nI L1.length)])), (a1, .inl (cA, (100, .inl f1))), (r2, .inr (0, [.ref a2, .int n2])), (a2, .inl (cA, (100, .inl f2))), (r3, .inr (0, [.ref a3, .int n3])), (a3, .inl (cA, (100, .inl f3))), (y0, .inr (2, [.int 2, .int (nI rn), .ref q1, .ref q2, .int (nI (((V2 L0 L1) 1).length)), .ref q3, .ref q4, .int ct, .int il, .ref q5])), (q1, .inl (cA, (2, .inl sf))), (q2, .inl (cA, (60, .inl lf))), (q3, .inl (cA, (320, .inl r1_2))), (q4, .inl (cA, (320, .inl nf))), (q5, .inl (cA, (6, .inl gf))), (o, .inl (cL, (1, .inr (.inl fo))))] H := hP
        have hD : va_D A [(x0, .inr (1, [.ref r0, .ref r1, .ref r2, .ref r3, .int (nI rn)])), (r0, .inr (0, [.ref a0, .int (nI L0.length)])), (a0, .inl (cA, (100, .inl f0))), (r1, .inr (0, [.ref a1, .int (nI L1.length)])), (a1, .inl (cA, (100, .inl f1))), (r2, .inr (0, [.ref a2, .int n2])), (a2, .inl (cA, (100, .inl f2))), (r3, .inr (0, [.ref a3, .int n3])), (a3, .inl (cA, (100, .inl f3))), (y0, .inr (2, [.int 2, .int (nI rn), .ref q1, .ref q2, .int (nI (((V2 L0 L1) 1).length)), .ref q3, .ref q4, .int ct, .int il, .ref q5])), (q1, .inl (cA, (2, .inl sf))), (q2, .inl (cA, (60, .inl lf))), (q3, .inl (cA, (320, .inl r1_2))), (q4, .inl (cA, (320, .inl nf))), (q5, .inl (cA, (6, .inl gf))), (o, .inl (cL, (1, .inr (.inl fo))))] := hD
        refine lv_istore (lv' := [(6, .int 0), (5, .int 2), (4, .int (nI i)), (3, .ref o), (2, .ref y0), (1, .ref x0), (0, .ref b)]) hx hb dL_law_663 hl (by decide) rfl (fun ls hl => ?_)
        refine lv_aload_n hx hb dL_law_665 rfl (lv_at hl 4 rfl) ?_
        refine g_RVi (As := []) (rest := []) ⟨hx, hb, hml, hown, hts⟩ (mt_X2_thrown l dC dI cA H.size y0 q1 q2 q3 q4 q5 rn 2 sf lf (nI (((V2 L0 L1) 1).length)) r1_2 nf ct il gf) (cwV 0 hts gL_law_X2_thrown rfl rfl rfl hdX2_thrown ⟨Nat.le_of_ble_eq_true rfl, Nat.le_of_ble_eq_true rfl⟩) hP hK hD [9, 10, 11, 12, 13, 14] (by decide) rfl (va_recv hK hP (ci := 2) (q0 := 9) rfl rfl) rfl hl.1 rfl (Nat.le_of_ble_eq_true rfl) dL_law_666 hc1 hs1 ?_
        refine lv_iload hx hb dL_law_669 (lv_at hl 1 rfl) ?_
        refine lv_icmp_eq (tgt := 676) hx hb dL_law_671 (by decide) (fun c671 => ?_) (fun c671 => ?_)
        · refine lv_iload hx hb dL_law_676 (lv_at hl 1 rfl) ?_
          refine lv_if_ne (tgt := 693) hx hb dL_law_678 (by decide) (fun c678 => ?_) (fun c678 => ?_)
          · have c678 : ¬ 2 = 0 := g_neT 2 0 (by omega) (by omega) c678
            refine lv_goto (tgt := 1241) hx hb dL_law_693 (by decide) ?_
            exact kk rn L0 L1 _ _ _ _ _ ⟨f0, f1, n2, f2, n3, f3, 2, sf, lf, nI (((V2 L0 L1) 1).length), r1_2, nf, ct, il, gf, fo, hP, hD, hS, hR0, hR1, hl0, hl1, hrn, hr6, hk0, hk1, hW⟩ (by omega) (by omega) (lv_sub hl [2, 3, 4, 5, 6] rfl)
          · exact absurd c678 (by decide)
        · exact absurd (by decide) c671

set_option maxHeartbeats 4000000 in
set_option maxRecDepth 100000 in
theorem lw_op_9 {p : Program} {l : Launch} {e : Env} {s : State} {m : MethodId} {below : List Frame} {meth : Method} {c : Code} {Q : State → Prop} {b L : Nat} {xs : Nat → Int32} {dC : Nat → ClassId} {dI : Nat → Nat → Nat} {cA cL : ClassId} {A : Nat → Prop} (E : lwE p l s m c b L xs dC dI cA cL A) {x0 r0 r1 r2 r3 a0 a1 a2 a3 y0 q1 q2 q3 q4 q5 o : Nat} {i : Nat} (hi : i + 4 ≤ L) {cells slots : Nat} (hC : cells + 1 ≤ 1053) (hS9 : slots + 6 ≤ 9402) {rn : Nat} {L0 L1 : List Int32} {H : Heap} {locs : List Loc} (hI : lwI dC dI cA cL A s.heap x0 r0 r1 r2 r3 a0 a1 a2 a3 y0 q1 q2 q3 q4 q5 o rn L0 L1 H locs) {ls : Array Slot} (hl : lv_has ls 9 [(4, .int (nI i)), (3, .ref o), (2, .ref y0), (1, .ref x0), (0, .ref b)])
    (kk : ∀ (rn : Nat) (L0 L1 : List Int32) (H : Heap) (locs : List Loc) (cells1 slots1 : Nat) (ls : Array Slot), lwI dC dI cA cL A s.heap x0 r0 r1 r2 r3 a0 a1 a2 a3 y0 q1 q2 q3 q4 q5 o rn L0 L1 H locs → cells1 ≤ cells + 1 → slots1 ≤ slots + 6 → lv_has ls 9 [(4, .int (nI i)), (3, .ref o), (2, .ref y0), (1, .ref x0), (0, .ref b)] → W p l e room_1 s m #[Value.ref b] below meth c H locs cells1 slots1 Q (F0 m 1241 ls [])) :
    W p l e room_1 s m #[Value.ref b] below meth c H locs cells slots Q (F0 m 696 ls []) := by
  obtain ⟨hx, hb, hml, hown, hts, hX, hbl, hbA, hA, htr, hKl, hZ, hL2⟩ := E
  obtain ⟨f0, f1, n2, f2, n3, f3, tv, sf, lf, mn, rf, nf, ct, il, gf, fo, hP, hD, hS, hR0, hR1, hl0, hl1, hrn, hr6, hk0, hk1, hW⟩ := hI
  have hK : va_K (dC, dI) vwCl [(cA, .int)] s := hKl.sub [0] rfl
  have hok := V2_ok hk0 hk1
  have hc0 : cells ≤ room_1.cells := (show cells ≤ 1053 from by omega)
  have hs0 : slots ≤ room_1.slots := (show slots ≤ 9402 from by omega)
  have hc1 : cells + 1 ≤ room_1.cells := hC
  have hs1 : slots + 6 ≤ room_1.slots := hS9
  rcases wd_ix (xs (i + 1)) with hbad | h1 | h1
  · refine lv_aload_n hx hb dL_law_696 rfl (lv_at hl 3 rfl) ?_
    refine lv_aload_n hx hb dL_law_697 rfl (lv_at hl 4 rfl) ?_
    refine lv_iload hx hb dL_law_698 (lv_at hl 0 rfl) ?_
    refine lv_iconst (v := 1) hx hb dL_law_700 (by decide) ?_
    refine lv_iadd hx hb dL_law_701 ?_
    rw [show (nI i) + 1 = nI (i + 1) from nI_add i 1]
    refine va_sld hx hb hX hbl hbA hS (vp_in_nI (by omega) (by omega)) dL_law_702 ?_
    rw [show (nI (i + 1)).toNatClampNeg = i + 1 from nI_clamp (by omega)]
    refine lv_aload_n hx hb dL_law_703 rfl (lv_at hl 4 rfl) ?_
    refine lv_iload hx hb dL_law_704 (lv_at hl 0 rfl) ?_
    refine lv_iconst (v := 2) hx hb dL_law_706 (by decide) ?_
    refine lv_iadd hx hb dL_law_707 ?_
    rw [show (nI i) + 2 = nI (i + 2) from nI_add i 2]
    refine va_sld hx hb hX hbl hbA hS (vp_in_nI (by omega) (by omega)) dL_law_708 ?_
    rw [show (nI (i + 2)).toNatClampNeg = i + 2 from nI_clamp (by omega)]
    refine lv_aload_n hx hb dL_law_709 rfl (lv_at hl 1 rfl) ?_
    refine g_LS (As := [.ref x0, .int (xs (i + 1)), .int (xs (i + 2)), .ref o]) (rest := []) ⟨hx, hb, hml, hown, hts⟩ (mt_L_letter_1 l htr dC dI cA cL H.size x0 (xs (i + 1)) (xs (i + 2)) r0 r1 r2 r3 (nI rn) o fo hbad) (vx_cwSW 4 hts gL_law_L_letter rfl rfl rfl hdL_letter ⟨Nat.le_of_ble_eq_true rfl, Nat.le_of_ble_eq_true rfl⟩) hP hKl hD hS hA hZ [0, 15] (by decide) rfl rfl hl.1 rfl (Nat.le_of_ble_eq_true rfl) dL_law_710 hc1 hs1 (fun u9 => [(x0, .inr (1, [.ref r0, .ref r1, .ref r2, .ref r3, .int (nI rn)])), (r0, .inr (0, [.ref a0, .int (nI L0.length)])), (a0, .inl (cA, (100, .inl f0))), (r1, .inr (0, [.ref a1, .int (nI L1.length)])), (a1, .inl (cA, (100, .inl f1))), (r2, .inr (0, [.ref a2, .int n2])), (a2, .inl (cA, (100, .inl f2))), (r3, .inr (0, [.ref a3, .int n3])), (a3, .inl (cA, (100, .inl f3))), (y0, .inr (2, [.int tv, .int (nI rn), .ref q1, .ref q2, .int mn, .ref q3, .ref q4, .int ct, .int il, .ref q5])), (q1, .inl (cA, (2, .inl sf))), (q2, .inl (cA, (60, .inl lf))), (q3, .inl (cA, (320, .inl rf))), (q4, .inl (cA, (320, .inl nf))), (q5, .inl (cA, (6, .inl gf))), (o, .inl (cL, (1, .inr (.inl fo))))]) (fun _ => rfl) (fun _ => rfl) (fun u H locs hw_1 hP hD hS => ?_)
    have hP : va_P (dC, dI) vwCl [(x0, .inr (1, [.ref r0, .ref r1, .ref r2, .ref r3, .int (nI rn)])), (r0, .inr (0, [.ref a0, .int (nI L0.length)])), (a0, .inl (cA, (100, .inl f0))), (r1, .inr (0, [.ref a1, .int (nI L1.length)])), (a1, .inl (cA, (100, .inl f1))), (r2, .inr (0, [.ref a2, .int n2])), (a2, .inl (cA, (100, .inl f2))), (r3, .inr (0, [.ref a3, .int n3])), (a3, .inl (cA, (100, .inl f3))), (y0, .inr (2, [.int tv, .int (nI rn), .ref q1, .ref q2, .int mn, .ref q3, .ref q4, .int ct, .int il, .ref q5])), (q1, .inl (cA, (2, .inl sf))), (q2, .inl (cA, (60, .inl lf))), (q3, .inl (cA, (320, .inl rf))), (q4, .inl (cA, (320, .inl nf))), (q5, .inl (cA, (6, .inl gf))), (o, .inl (cL, (1, .inr (.inl fo))))] H := hP
    have hD : va_D A [(x0, .inr (1, [.ref r0, .ref r1, .ref r2, .ref r3, .int (nI rn)])), (r0, .inr (0, [.ref a0, .int (nI L0.length)])), (a0, .inl (cA, (100, .inl f0))), (r1, .inr (0, [.ref a1, .int (nI L1.length)])), (a1, .inl (cA, (100, .inl f1))), (r2, .inr (0, [.ref a2, .int n2])), (a2, .inl (cA, (100, .inl f2))), (r3, .inr (0, [.ref a3, .int n3])), (a3, .inl (cA, (100, .inl f3))), (y0, .inr (2, [.int tv, .int (nI rn), .ref q1, .ref q2, .int mn, .ref q3, .ref q4, .int ct, .int il, .ref q5])), (q1, .inl (cA, (2, .inl sf))), (q2, .inl (cA, (60, .inl lf))), (q3, .inl (cA, (320, .inl rf))), (q4, .inl (cA, (320, .inl nf))), (q5, .inl (cA, (6, .inl gf))), (o, .inl (cL, (1, .inr (.inl fo))))] := hD
    refine lv_istore (lv' := [(5, .int 1), (4, .int (nI i)), (3, .ref o), (2, .ref y0), (1, .ref x0), (0, .ref b)]) hx hb dL_law_713 hl (by decide) rfl (fun ls hl => ?_)
    refine lv_aload_n hx hb dL_law_715 rfl (lv_at hl 3 rfl) ?_
    refine lv_aload_n hx hb dL_law_716 rfl (lv_at hl 5 rfl) ?_
    refine lv_iload hx hb dL_law_717 (lv_at hl 1 rfl) ?_
    refine lv_iconst (v := 1) hx hb dL_law_719 (by decide) ?_
    refine lv_iadd hx hb dL_law_720 ?_
    rw [show (nI i) + 1 = nI (i + 1) from nI_add i 1]
    refine va_sld hx hb hX hbl hbA hS (vp_in_nI (by omega) (by omega)) dL_law_721 ?_
    rw [show (nI (i + 1)).toNatClampNeg = i + 1 from nI_clamp (by omega)]
    refine lv_aload_n hx hb dL_law_722 rfl (lv_at hl 5 rfl) ?_
    refine lv_iload hx hb dL_law_723 (lv_at hl 1 rfl) ?_
    refine lv_iconst (v := 2) hx hb dL_law_725 (by decide) ?_
    refine lv_iadd hx hb dL_law_726 ?_
    rw [show (nI i) + 2 = nI (i + 2) from nI_add i 2]
    refine va_sld hx hb hX hbl hbA hS (vp_in_nI (by omega) (by omega)) dL_law_727 ?_
    rw [show (nI (i + 2)).toNatClampNeg = i + 2 from nI_clamp (by omega)]
    refine g_MVi (As := [.int (xs (i + 1)), .int (xs (i + 2))]) (rest := []) ⟨hx, hb, hml, hown, hts⟩ (mt_X2_letter_1 l dC dI cA H.size y0 q1 q2 q3 q4 q5 rn tv sf lf mn rf nf ct il gf (xs (i + 1)) (xs (i + 2)) hbad) (cwV 2 hts gL_law_X2_letter rfl rfl rfl hdX2_letter ⟨Nat.le_of_ble_eq_true rfl, Nat.le_of_ble_eq_true rfl⟩) hP hK hD hS hA [9, 10, 11, 12, 13, 14] (by decide) rfl (va_recv hK hP (ci := 2) (q0 := 9) rfl rfl) rfl hl.1 rfl (Nat.le_of_ble_eq_true rfl) dL_law_728 hc1 hs1 (fun u9 => [(x0, .inr (1, [.ref r0, .ref r1, .ref r2, .ref r3, .int (nI rn)])), (r0, .inr (0, [.ref a0, .int (nI L0.length)])), (a0, .inl (cA, (100, .inl f0))), (r1, .inr (0, [.ref a1, .int (nI L1.length)])), (a1, .inl (cA, (100, .inl f1))), (r2, .inr (0, [.ref a2, .int n2])), (a2, .inl (cA, (100, .inl f2))), (r3, .inr (0, [.ref a3, .int n3])), (a3, .inl (cA, (100, .inl f3))), (y0, .inr (2, [.int 1, .int (nI rn), .ref q1, .ref q2, .int mn, .ref q3, .ref q4, .int ct, .int il, .ref q5])), (q1, .inl (cA, (2, .inl sf))), (q2, .inl (cA, (60, .inl lf))), (q3, .inl (cA, (320, .inl rf))), (q4, .inl (cA, (320, .inl nf))), (q5, .inl (cA, (6, .inl gf))), (o, .inl (cL, (1, .inr (.inl fo))))]) (fun _ => rfl) (fun _ => rfl) (fun u H locs hw_2 hP hD hS => ?_)
    have hw_2 : True := hw_2
    have hP : va_P (dC, dI) vwCl [(x0, .inr (1, [.ref r0, .ref r1, .ref r2, .ref r3, .int (nI rn)])), (r0, .inr (0, [.ref a0, .int (nI L0.length)])), (a0, .inl (cA, (100, .inl f0))), (r1, .inr (0, [.ref a1, .int (nI L1.length)])), (a1, .inl (cA, (100, .inl f1))), (r2, .inr (0, [.ref a2, .int n2])), (a2, .inl (cA, (100, .inl f2))), (r3, .inr (0, [.ref a3, .int n3])), (a3, .inl (cA, (100, .inl f3))), (y0, .inr (2, [.int 1, .int (nI rn), .ref q1, .ref q2, .int mn, .ref q3, .ref q4, .int ct, .int il, .ref q5])), (q1, .inl (cA, (2, .inl sf))), (q2, .inl (cA, (60, .inl lf))), (q3, .inl (cA, (320, .inl rf))), (q4, .inl (cA, (320, .inl nf))), (q5, .inl (cA, (6, .inl gf))), (o, .inl (cL, (1, .inr (.inl fo))))] H := hP
    have hD : va_D A [(x0, .inr (1, [.ref r0, .ref r1, .ref r2, .ref r3, .int (nI rn)])), (r0, .inr (0, [.ref a0, .int (nI L0.length)])), (a0, .inl (cA, (100, .inl f0))), (r1, .inr (0, [.ref a1, .int (nI L1.length)])), (a1, .inl (cA, (100, .inl f1))), (r2, .inr (0, [.ref a2, .int n2])), (a2, .inl (cA, (100, .inl f2))), (r3, .inr (0, [.ref a3, .int n3])), (a3, .inl (cA, (100, .inl f3))), (y0, .inr (2, [.int 1, .int (nI rn), .ref q1, .ref q2, .int mn, .ref q3, .ref q4, .int ct, .int il, .ref q5])), (q1, .inl (cA, (2, .inl sf))), (q2, .inl (cA, (60, .inl lf))), (q3, .inl (cA, (320, .inl rf))), (q4, .inl (cA, (320, .inl nf))), (q5, .inl (cA, (6, .inl gf))), (o, .inl (cL, (1, .inr (.inl fo))))] := hD
    refine lv_istore (lv' := [(6, .int 0), (5, .int 1), (4, .int (nI i)), (3, .ref o), (2, .ref y0), (1, .ref x0), (0, .ref b)]) hx hb dL_law_731 hl (by decide) rfl (fun ls hl => ?_)
    refine lv_aload_n hx hb dL_law_733 rfl (lv_at hl 4 rfl) ?_
    refine g_RVi (As := []) (rest := []) ⟨hx, hb, hml, hown, hts⟩ (mt_X2_thrown l dC dI cA H.size y0 q1 q2 q3 q4 q5 rn 1 sf lf mn rf nf ct il gf) (cwV 0 hts gL_law_X2_thrown rfl rfl rfl hdX2_thrown ⟨Nat.le_of_ble_eq_true rfl, Nat.le_of_ble_eq_true rfl⟩) hP hK hD [9, 10, 11, 12, 13, 14] (by decide) rfl (va_recv hK hP (ci := 2) (q0 := 9) rfl rfl) rfl hl.1 rfl (Nat.le_of_ble_eq_true rfl) dL_law_734 hc1 hs1 ?_
    refine lv_iload hx hb dL_law_737 (lv_at hl 1 rfl) ?_
    refine lv_icmp_eq (tgt := 744) hx hb dL_law_739 (by decide) (fun c739 => ?_) (fun c739 => ?_)
    · refine lv_iload hx hb dL_law_744 (lv_at hl 1 rfl) ?_
      refine lv_if_ne (tgt := 761) hx hb dL_law_746 (by decide) (fun c746 => ?_) (fun c746 => ?_)
      · have c746 : ¬ 1 = 0 := g_neT 1 0 (by omega) (by omega) c746
        refine lv_goto (tgt := 1241) hx hb dL_law_761 (by decide) ?_
        exact kk rn L0 L1 _ _ _ _ _ ⟨f0, f1, n2, f2, n3, f3, 1, sf, lf, mn, rf, nf, ct, il, gf, fo, hP, hD, hS, hR0, hR1, hl0, hl1, hrn, hr6, hk0, hk1, hW⟩ (by omega) (by omega) (lv_sub hl [2, 3, 4, 5, 6] rfl)
      · exact absurd c746 (by decide)
    · exact absurd (by decide) c739
  · rcases pk_ix (xs (i + 2)) (n := L0.length) (by omega) with hbad | hbad | ⟨k, hk9, h2⟩
    · refine lv_aload_n hx hb dL_law_696 rfl (lv_at hl 3 rfl) ?_
      refine lv_aload_n hx hb dL_law_697 rfl (lv_at hl 4 rfl) ?_
      refine lv_iload hx hb dL_law_698 (lv_at hl 0 rfl) ?_
      refine lv_iconst (v := 1) hx hb dL_law_700 (by decide) ?_
      refine lv_iadd hx hb dL_law_701 ?_
      rw [show (nI i) + 1 = nI (i + 1) from nI_add i 1]
      refine va_sld hx hb hX hbl hbA hS (vp_in_nI (by omega) (by omega)) dL_law_702 ?_
      rw [show (nI (i + 1)).toNatClampNeg = i + 1 from nI_clamp (by omega)]
      rw [h1]
      refine lv_aload_n hx hb dL_law_703 rfl (lv_at hl 4 rfl) ?_
      refine lv_iload hx hb dL_law_704 (lv_at hl 0 rfl) ?_
      refine lv_iconst (v := 2) hx hb dL_law_706 (by decide) ?_
      refine lv_iadd hx hb dL_law_707 ?_
      rw [show (nI i) + 2 = nI (i + 2) from nI_add i 2]
      refine va_sld hx hb hX hbl hbA hS (vp_in_nI (by omega) (by omega)) dL_law_708 ?_
      rw [show (nI (i + 2)).toNatClampNeg = i + 2 from nI_clamp (by omega)]
      refine lv_aload_n hx hb dL_law_709 rfl (lv_at hl 1 rfl) ?_
      refine g_LS (As := [.ref x0, .int (nI 0), .int (xs (i + 2)), .ref o]) (rest := []) ⟨hx, hb, hml, hown, hts⟩ (mt_L_letter_1b_0 l htr dC dI cA cL H.size x0 r0 r1 r2 r3 rn a0 L0 f0 (xs (i + 2)) o fo hR0 (Or.inl hbad)) (vx_cwSW 4 hts gL_law_L_letter rfl rfl rfl hdL_letter ⟨Nat.le_of_ble_eq_true rfl, Nat.le_of_ble_eq_true rfl⟩) hP hKl hD hS hA hZ [0, 1, 2, 15] (by decide) rfl rfl hl.1 rfl (Nat.le_of_ble_eq_true rfl) dL_law_710 hc1 hs1 (fun u9 => [(x0, .inr (1, [.ref r0, .ref r1, .ref r2, .ref r3, .int (nI rn)])), (r0, .inr (0, [.ref a0, .int (nI L0.length)])), (a0, .inl (cA, (100, .inl f0))), (r1, .inr (0, [.ref a1, .int (nI L1.length)])), (a1, .inl (cA, (100, .inl f1))), (r2, .inr (0, [.ref a2, .int n2])), (a2, .inl (cA, (100, .inl f2))), (r3, .inr (0, [.ref a3, .int n3])), (a3, .inl (cA, (100, .inl f3))), (y0, .inr (2, [.int tv, .int (nI rn), .ref q1, .ref q2, .int mn, .ref q3, .ref q4, .int ct, .int il, .ref q5])), (q1, .inl (cA, (2, .inl sf))), (q2, .inl (cA, (60, .inl lf))), (q3, .inl (cA, (320, .inl rf))), (q4, .inl (cA, (320, .inl nf))), (q5, .inl (cA, (6, .inl gf))), (o, .inl (cL, (1, .inr (.inl fo))))]) (fun _ => rfl) (fun _ => rfl) (fun u H locs hw_1 hP hD hS => ?_)
      have hP : va_P (dC, dI) vwCl [(x0, .inr (1, [.ref r0, .ref r1, .ref r2, .ref r3, .int (nI rn)])), (r0, .inr (0, [.ref a0, .int (nI L0.length)])), (a0, .inl (cA, (100, .inl f0))), (r1, .inr (0, [.ref a1, .int (nI L1.length)])), (a1, .inl (cA, (100, .inl f1))), (r2, .inr (0, [.ref a2, .int n2])), (a2, .inl (cA, (100, .inl f2))), (r3, .inr (0, [.ref a3, .int n3])), (a3, .inl (cA, (100, .inl f3))), (y0, .inr (2, [.int tv, .int (nI rn), .ref q1, .ref q2, .int mn, .ref q3, .ref q4, .int ct, .int il, .ref q5])), (q1, .inl (cA, (2, .inl sf))), (q2, .inl (cA, (60, .inl lf))), (q3, .inl (cA, (320, .inl rf))), (q4, .inl (cA, (320, .inl nf))), (q5, .inl (cA, (6, .inl gf))), (o, .inl (cL, (1, .inr (.inl fo))))] H := hP
      have hD : va_D A [(x0, .inr (1, [.ref r0, .ref r1, .ref r2, .ref r3, .int (nI rn)])), (r0, .inr (0, [.ref a0, .int (nI L0.length)])), (a0, .inl (cA, (100, .inl f0))), (r1, .inr (0, [.ref a1, .int (nI L1.length)])), (a1, .inl (cA, (100, .inl f1))), (r2, .inr (0, [.ref a2, .int n2])), (a2, .inl (cA, (100, .inl f2))), (r3, .inr (0, [.ref a3, .int n3])), (a3, .inl (cA, (100, .inl f3))), (y0, .inr (2, [.int tv, .int (nI rn), .ref q1, .ref q2, .int mn, .ref q3, .ref q4, .int ct, .int il, .ref q5])), (q1, .inl (cA, (2, .inl sf))), (q2, .inl (cA, (60, .inl lf))), (q3, .inl (cA, (320, .inl rf))), (q4, .inl (cA, (320, .inl nf))), (q5, .inl (cA, (6, .inl gf))), (o, .inl (cL, (1, .inr (.inl fo))))] := hD
      refine lv_istore (lv' := [(5, .int 1), (4, .int (nI i)), (3, .ref o), (2, .ref y0), (1, .ref x0), (0, .ref b)]) hx hb dL_law_713 hl (by decide) rfl (fun ls hl => ?_)
      refine lv_aload_n hx hb dL_law_715 rfl (lv_at hl 3 rfl) ?_
      refine lv_aload_n hx hb dL_law_716 rfl (lv_at hl 5 rfl) ?_
      refine lv_iload hx hb dL_law_717 (lv_at hl 1 rfl) ?_
      refine lv_iconst (v := 1) hx hb dL_law_719 (by decide) ?_
      refine lv_iadd hx hb dL_law_720 ?_
      rw [show (nI i) + 1 = nI (i + 1) from nI_add i 1]
      refine va_sld hx hb hX hbl hbA hS (vp_in_nI (by omega) (by omega)) dL_law_721 ?_
      rw [show (nI (i + 1)).toNatClampNeg = i + 1 from nI_clamp (by omega)]
      rw [h1]
      refine lv_aload_n hx hb dL_law_722 rfl (lv_at hl 5 rfl) ?_
      refine lv_iload hx hb dL_law_723 (lv_at hl 1 rfl) ?_
      refine lv_iconst (v := 2) hx hb dL_law_725 (by decide) ?_
      refine lv_iadd hx hb dL_law_726 ?_
      rw [show (nI i) + 2 = nI (i + 2) from nI_add i 2]
      refine va_sld hx hb hX hbl hbA hS (vp_in_nI (by omega) (by omega)) dL_law_727 ?_
      rw [show (nI (i + 2)).toNatClampNeg = i + 2 from nI_clamp (by omega)]
      refine g_MVi (As := [.int (nI 0), .int (xs (i + 2))]) (rest := []) ⟨hx, hb, hml, hown, hts⟩ (mt_X2_letter_1b l dC dI cA H.size y0 q1 q2 q3 q4 q5 rn tv sf lf mn rf nf ct il gf (V2 L0 L1) 0 (xs (i + 2)) hW (by omega) (Or.inl hbad)) (cwV 2 hts gL_law_X2_letter rfl rfl rfl hdX2_letter ⟨Nat.le_of_ble_eq_true rfl, Nat.le_of_ble_eq_true rfl⟩) hP hK hD hS hA [9, 10, 11, 12, 13, 14] (by decide) rfl (va_recv hK hP (ci := 2) (q0 := 9) rfl rfl) rfl hl.1 rfl (Nat.le_of_ble_eq_true rfl) dL_law_728 hc1 hs1 (fun u9 => [(x0, .inr (1, [.ref r0, .ref r1, .ref r2, .ref r3, .int (nI rn)])), (r0, .inr (0, [.ref a0, .int (nI L0.length)])), (a0, .inl (cA, (100, .inl f0))), (r1, .inr (0, [.ref a1, .int (nI L1.length)])), (a1, .inl (cA, (100, .inl f1))), (r2, .inr (0, [.ref a2, .int n2])), (a2, .inl (cA, (100, .inl f2))), (r3, .inr (0, [.ref a3, .int n3])), (a3, .inl (cA, (100, .inl f3))), (y0, .inr (2, [.int 1, .int (nI rn), .ref q1, .ref q2, .int mn, .ref q3, .ref q4, .int ct, .int il, .ref q5])), (q1, .inl (cA, (2, .inl sf))), (q2, .inl (cA, (60, .inl lf))), (q3, .inl (cA, (320, .inl rf))), (q4, .inl (cA, (320, .inl nf))), (q5, .inl (cA, (6, .inl gf))), (o, .inl (cL, (1, .inr (.inl fo))))]) (fun _ => rfl) (fun _ => rfl) (fun u H locs hw_2 hP hD hS => ?_)
      have hw_2 : True := hw_2
      have hP : va_P (dC, dI) vwCl [(x0, .inr (1, [.ref r0, .ref r1, .ref r2, .ref r3, .int (nI rn)])), (r0, .inr (0, [.ref a0, .int (nI L0.length)])), (a0, .inl (cA, (100, .inl f0))), (r1, .inr (0, [.ref a1, .int (nI L1.length)])), (a1, .inl (cA, (100, .inl f1))), (r2, .inr (0, [.ref a2, .int n2])), (a2, .inl (cA, (100, .inl f2))), (r3, .inr (0, [.ref a3, .int n3])), (a3, .inl (cA, (100, .inl f3))), (y0, .inr (2, [.int 1, .int (nI rn), .ref q1, .ref q2, .int mn, .ref q3, .ref q4, .int ct, .int il, .ref q5])), (q1, .inl (cA, (2, .inl sf))), (q2, .inl (cA, (60, .inl lf))), (q3, .inl (cA, (320, .inl rf))), (q4, .inl (cA, (320, .inl nf))), (q5, .inl (cA, (6, .inl gf))), (o, .inl (cL, (1, .inr (.inl fo))))] H := hP
      have hD : va_D A [(x0, .inr (1, [.ref r0, .ref r1, .ref r2, .ref r3, .int (nI rn)])), (r0, .inr (0, [.ref a0, .int (nI L0.length)])), (a0, .inl (cA, (100, .inl f0))), (r1, .inr (0, [.ref a1, .int (nI L1.length)])), (a1, .inl (cA, (100, .inl f1))), (r2, .inr (0, [.ref a2, .int n2])), (a2, .inl (cA, (100, .inl f2))), (r3, .inr (0, [.ref a3, .int n3])), (a3, .inl (cA, (100, .inl f3))), (y0, .inr (2, [.int 1, .int (nI rn), .ref q1, .ref q2, .int mn, .ref q3, .ref q4, .int ct, .int il, .ref q5])), (q1, .inl (cA, (2, .inl sf))), (q2, .inl (cA, (60, .inl lf))), (q3, .inl (cA, (320, .inl rf))), (q4, .inl (cA, (320, .inl nf))), (q5, .inl (cA, (6, .inl gf))), (o, .inl (cL, (1, .inr (.inl fo))))] := hD
      refine lv_istore (lv' := [(6, .int 0), (5, .int 1), (4, .int (nI i)), (3, .ref o), (2, .ref y0), (1, .ref x0), (0, .ref b)]) hx hb dL_law_731 hl (by decide) rfl (fun ls hl => ?_)
      refine lv_aload_n hx hb dL_law_733 rfl (lv_at hl 4 rfl) ?_
      refine g_RVi (As := []) (rest := []) ⟨hx, hb, hml, hown, hts⟩ (mt_X2_thrown l dC dI cA H.size y0 q1 q2 q3 q4 q5 rn 1 sf lf mn rf nf ct il gf) (cwV 0 hts gL_law_X2_thrown rfl rfl rfl hdX2_thrown ⟨Nat.le_of_ble_eq_true rfl, Nat.le_of_ble_eq_true rfl⟩) hP hK hD [9, 10, 11, 12, 13, 14] (by decide) rfl (va_recv hK hP (ci := 2) (q0 := 9) rfl rfl) rfl hl.1 rfl (Nat.le_of_ble_eq_true rfl) dL_law_734 hc1 hs1 ?_
      refine lv_iload hx hb dL_law_737 (lv_at hl 1 rfl) ?_
      refine lv_icmp_eq (tgt := 744) hx hb dL_law_739 (by decide) (fun c739 => ?_) (fun c739 => ?_)
      · refine lv_iload hx hb dL_law_744 (lv_at hl 1 rfl) ?_
        refine lv_if_ne (tgt := 761) hx hb dL_law_746 (by decide) (fun c746 => ?_) (fun c746 => ?_)
        · have c746 : ¬ 1 = 0 := g_neT 1 0 (by omega) (by omega) c746
          refine lv_goto (tgt := 1241) hx hb dL_law_761 (by decide) ?_
          exact kk rn L0 L1 _ _ _ _ _ ⟨f0, f1, n2, f2, n3, f3, 1, sf, lf, mn, rf, nf, ct, il, gf, fo, hP, hD, hS, hR0, hR1, hl0, hl1, hrn, hr6, hk0, hk1, hW⟩ (by omega) (by omega) (lv_sub hl [2, 3, 4, 5, 6] rfl)
        · exact absurd c746 (by decide)
      · exact absurd (by decide) c739
    · refine lv_aload_n hx hb dL_law_696 rfl (lv_at hl 3 rfl) ?_
      refine lv_aload_n hx hb dL_law_697 rfl (lv_at hl 4 rfl) ?_
      refine lv_iload hx hb dL_law_698 (lv_at hl 0 rfl) ?_
      refine lv_iconst (v := 1) hx hb dL_law_700 (by decide) ?_
      refine lv_iadd hx hb dL_law_701 ?_
      rw [show (nI i) + 1 = nI (i + 1) from nI_add i 1]
      refine va_sld hx hb hX hbl hbA hS (vp_in_nI (by omega) (by omega)) dL_law_702 ?_
      rw [show (nI (i + 1)).toNatClampNeg = i + 1 from nI_clamp (by omega)]
      rw [h1]
      refine lv_aload_n hx hb dL_law_703 rfl (lv_at hl 4 rfl) ?_
      refine lv_iload hx hb dL_law_704 (lv_at hl 0 rfl) ?_
      refine lv_iconst (v := 2) hx hb dL_law_706 (by decide) ?_
      refine lv_iadd hx hb dL_law_707 ?_
      rw [show (nI i) + 2 = nI (i + 2) from nI_add i 2]
      refine va_sld hx hb hX hbl hbA hS (vp_in_nI (by omega) (by omega)) dL_law_708 ?_
      rw [show (nI (i + 2)).toNatClampNeg = i + 2 from nI_clamp (by omega)]
      refine lv_aload_n hx hb dL_law_709 rfl (lv_at hl 1 rfl) ?_
      refine g_LS (As := [.ref x0, .int (nI 0), .int (xs (i + 2)), .ref o]) (rest := []) ⟨hx, hb, hml, hown, hts⟩ (mt_L_letter_1b_0 l htr dC dI cA cL H.size x0 r0 r1 r2 r3 rn a0 L0 f0 (xs (i + 2)) o fo hR0 (Or.inr hbad)) (vx_cwSW 4 hts gL_law_L_letter rfl rfl rfl hdL_letter ⟨Nat.le_of_ble_eq_true rfl, Nat.le_of_ble_eq_true rfl⟩) hP hKl hD hS hA hZ [0, 1, 2, 15] (by decide) rfl rfl hl.1 rfl (Nat.le_of_ble_eq_true rfl) dL_law_710 hc1 hs1 (fun u9 => [(x0, .inr (1, [.ref r0, .ref r1, .ref r2, .ref r3, .int (nI rn)])), (r0, .inr (0, [.ref a0, .int (nI L0.length)])), (a0, .inl (cA, (100, .inl f0))), (r1, .inr (0, [.ref a1, .int (nI L1.length)])), (a1, .inl (cA, (100, .inl f1))), (r2, .inr (0, [.ref a2, .int n2])), (a2, .inl (cA, (100, .inl f2))), (r3, .inr (0, [.ref a3, .int n3])), (a3, .inl (cA, (100, .inl f3))), (y0, .inr (2, [.int tv, .int (nI rn), .ref q1, .ref q2, .int mn, .ref q3, .ref q4, .int ct, .int il, .ref q5])), (q1, .inl (cA, (2, .inl sf))), (q2, .inl (cA, (60, .inl lf))), (q3, .inl (cA, (320, .inl rf))), (q4, .inl (cA, (320, .inl nf))), (q5, .inl (cA, (6, .inl gf))), (o, .inl (cL, (1, .inr (.inl fo))))]) (fun _ => rfl) (fun _ => rfl) (fun u H locs hw_1 hP hD hS => ?_)
      have hP : va_P (dC, dI) vwCl [(x0, .inr (1, [.ref r0, .ref r1, .ref r2, .ref r3, .int (nI rn)])), (r0, .inr (0, [.ref a0, .int (nI L0.length)])), (a0, .inl (cA, (100, .inl f0))), (r1, .inr (0, [.ref a1, .int (nI L1.length)])), (a1, .inl (cA, (100, .inl f1))), (r2, .inr (0, [.ref a2, .int n2])), (a2, .inl (cA, (100, .inl f2))), (r3, .inr (0, [.ref a3, .int n3])), (a3, .inl (cA, (100, .inl f3))), (y0, .inr (2, [.int tv, .int (nI rn), .ref q1, .ref q2, .int mn, .ref q3, .ref q4, .int ct, .int il, .ref q5])), (q1, .inl (cA, (2, .inl sf))), (q2, .inl (cA, (60, .inl lf))), (q3, .inl (cA, (320, .inl rf))), (q4, .inl (cA, (320, .inl nf))), (q5, .inl (cA, (6, .inl gf))), (o, .inl (cL, (1, .inr (.inl fo))))] H := hP
      have hD : va_D A [(x0, .inr (1, [.ref r0, .ref r1, .ref r2, .ref r3, .int (nI rn)])), (r0, .inr (0, [.ref a0, .int (nI L0.length)])), (a0, .inl (cA, (100, .inl f0))), (r1, .inr (0, [.ref a1, .int (nI L1.length)])), (a1, .inl (cA, (100, .inl f1))), (r2, .inr (0, [.ref a2, .int n2])), (a2, .inl (cA, (100, .inl f2))), (r3, .inr (0, [.ref a3, .int n3])), (a3, .inl (cA, (100, .inl f3))), (y0, .inr (2, [.int tv, .int (nI rn), .ref q1, .ref q2, .int mn, .ref q3, .ref q4, .int ct, .int il, .ref q5])), (q1, .inl (cA, (2, .inl sf))), (q2, .inl (cA, (60, .inl lf))), (q3, .inl (cA, (320, .inl rf))), (q4, .inl (cA, (320, .inl nf))), (q5, .inl (cA, (6, .inl gf))), (o, .inl (cL, (1, .inr (.inl fo))))] := hD
      refine lv_istore (lv' := [(5, .int 1), (4, .int (nI i)), (3, .ref o), (2, .ref y0), (1, .ref x0), (0, .ref b)]) hx hb dL_law_713 hl (by decide) rfl (fun ls hl => ?_)
      refine lv_aload_n hx hb dL_law_715 rfl (lv_at hl 3 rfl) ?_
      refine lv_aload_n hx hb dL_law_716 rfl (lv_at hl 5 rfl) ?_
      refine lv_iload hx hb dL_law_717 (lv_at hl 1 rfl) ?_
      refine lv_iconst (v := 1) hx hb dL_law_719 (by decide) ?_
      refine lv_iadd hx hb dL_law_720 ?_
      rw [show (nI i) + 1 = nI (i + 1) from nI_add i 1]
      refine va_sld hx hb hX hbl hbA hS (vp_in_nI (by omega) (by omega)) dL_law_721 ?_
      rw [show (nI (i + 1)).toNatClampNeg = i + 1 from nI_clamp (by omega)]
      rw [h1]
      refine lv_aload_n hx hb dL_law_722 rfl (lv_at hl 5 rfl) ?_
      refine lv_iload hx hb dL_law_723 (lv_at hl 1 rfl) ?_
      refine lv_iconst (v := 2) hx hb dL_law_725 (by decide) ?_
      refine lv_iadd hx hb dL_law_726 ?_
      rw [show (nI i) + 2 = nI (i + 2) from nI_add i 2]
      refine va_sld hx hb hX hbl hbA hS (vp_in_nI (by omega) (by omega)) dL_law_727 ?_
      rw [show (nI (i + 2)).toNatClampNeg = i + 2 from nI_clamp (by omega)]
      refine g_MVi (As := [.int (nI 0), .int (xs (i + 2))]) (rest := []) ⟨hx, hb, hml, hown, hts⟩ (mt_X2_letter_1b l dC dI cA H.size y0 q1 q2 q3 q4 q5 rn tv sf lf mn rf nf ct il gf (V2 L0 L1) 0 (xs (i + 2)) hW (by omega) (Or.inr hbad)) (cwV 2 hts gL_law_X2_letter rfl rfl rfl hdX2_letter ⟨Nat.le_of_ble_eq_true rfl, Nat.le_of_ble_eq_true rfl⟩) hP hK hD hS hA [9, 10, 11, 12, 13, 14] (by decide) rfl (va_recv hK hP (ci := 2) (q0 := 9) rfl rfl) rfl hl.1 rfl (Nat.le_of_ble_eq_true rfl) dL_law_728 hc1 hs1 (fun u9 => [(x0, .inr (1, [.ref r0, .ref r1, .ref r2, .ref r3, .int (nI rn)])), (r0, .inr (0, [.ref a0, .int (nI L0.length)])), (a0, .inl (cA, (100, .inl f0))), (r1, .inr (0, [.ref a1, .int (nI L1.length)])), (a1, .inl (cA, (100, .inl f1))), (r2, .inr (0, [.ref a2, .int n2])), (a2, .inl (cA, (100, .inl f2))), (r3, .inr (0, [.ref a3, .int n3])), (a3, .inl (cA, (100, .inl f3))), (y0, .inr (2, [.int 1, .int (nI rn), .ref q1, .ref q2, .int mn, .ref q3, .ref q4, .int ct, .int il, .ref q5])), (q1, .inl (cA, (2, .inl sf))), (q2, .inl (cA, (60, .inl lf))), (q3, .inl (cA, (320, .inl rf))), (q4, .inl (cA, (320, .inl nf))), (q5, .inl (cA, (6, .inl gf))), (o, .inl (cL, (1, .inr (.inl fo))))]) (fun _ => rfl) (fun _ => rfl) (fun u H locs hw_2 hP hD hS => ?_)
      have hw_2 : True := hw_2
      have hP : va_P (dC, dI) vwCl [(x0, .inr (1, [.ref r0, .ref r1, .ref r2, .ref r3, .int (nI rn)])), (r0, .inr (0, [.ref a0, .int (nI L0.length)])), (a0, .inl (cA, (100, .inl f0))), (r1, .inr (0, [.ref a1, .int (nI L1.length)])), (a1, .inl (cA, (100, .inl f1))), (r2, .inr (0, [.ref a2, .int n2])), (a2, .inl (cA, (100, .inl f2))), (r3, .inr (0, [.ref a3, .int n3])), (a3, .inl (cA, (100, .inl f3))), (y0, .inr (2, [.int 1, .int (nI rn), .ref q1, .ref q2, .int mn, .ref q3, .ref q4, .int ct, .int il, .ref q5])), (q1, .inl (cA, (2, .inl sf))), (q2, .inl (cA, (60, .inl lf))), (q3, .inl (cA, (320, .inl rf))), (q4, .inl (cA, (320, .inl nf))), (q5, .inl (cA, (6, .inl gf))), (o, .inl (cL, (1, .inr (.inl fo))))] H := hP
      have hD : va_D A [(x0, .inr (1, [.ref r0, .ref r1, .ref r2, .ref r3, .int (nI rn)])), (r0, .inr (0, [.ref a0, .int (nI L0.length)])), (a0, .inl (cA, (100, .inl f0))), (r1, .inr (0, [.ref a1, .int (nI L1.length)])), (a1, .inl (cA, (100, .inl f1))), (r2, .inr (0, [.ref a2, .int n2])), (a2, .inl (cA, (100, .inl f2))), (r3, .inr (0, [.ref a3, .int n3])), (a3, .inl (cA, (100, .inl f3))), (y0, .inr (2, [.int 1, .int (nI rn), .ref q1, .ref q2, .int mn, .ref q3, .ref q4, .int ct, .int il, .ref q5])), (q1, .inl (cA, (2, .inl sf))), (q2, .inl (cA, (60, .inl lf))), (q3, .inl (cA, (320, .inl rf))), (q4, .inl (cA, (320, .inl nf))), (q5, .inl (cA, (6, .inl gf))), (o, .inl (cL, (1, .inr (.inl fo))))] := hD
      refine lv_istore (lv' := [(6, .int 0), (5, .int 1), (4, .int (nI i)), (3, .ref o), (2, .ref y0), (1, .ref x0), (0, .ref b)]) hx hb dL_law_731 hl (by decide) rfl (fun ls hl => ?_)
      refine lv_aload_n hx hb dL_law_733 rfl (lv_at hl 4 rfl) ?_
      refine g_RVi (As := []) (rest := []) ⟨hx, hb, hml, hown, hts⟩ (mt_X2_thrown l dC dI cA H.size y0 q1 q2 q3 q4 q5 rn 1 sf lf mn rf nf ct il gf) (cwV 0 hts gL_law_X2_thrown rfl rfl rfl hdX2_thrown ⟨Nat.le_of_ble_eq_true rfl, Nat.le_of_ble_eq_true rfl⟩) hP hK hD [9, 10, 11, 12, 13, 14] (by decide) rfl (va_recv hK hP (ci := 2) (q0 := 9) rfl rfl) rfl hl.1 rfl (Nat.le_of_ble_eq_true rfl) dL_law_734 hc1 hs1 ?_
      refine lv_iload hx hb dL_law_737 (lv_at hl 1 rfl) ?_
      refine lv_icmp_eq (tgt := 744) hx hb dL_law_739 (by decide) (fun c739 => ?_) (fun c739 => ?_)
      · refine lv_iload hx hb dL_law_744 (lv_at hl 1 rfl) ?_
        refine lv_if_ne (tgt := 761) hx hb dL_law_746 (by decide) (fun c746 => ?_) (fun c746 => ?_)
        · have c746 : ¬ 1 = 0 := g_neT 1 0 (by omega) (by omega) c746
          refine lv_goto (tgt := 1241) hx hb dL_law_761 (by decide) ?_
          exact kk rn L0 L1 _ _ _ _ _ ⟨f0, f1, n2, f2, n3, f3, 1, sf, lf, mn, rf, nf, ct, il, gf, fo, hP, hD, hS, hR0, hR1, hl0, hl1, hrn, hr6, hk0, hk1, hW⟩ (by omega) (by omega) (lv_sub hl [2, 3, 4, 5, 6] rfl)
        · exact absurd c746 (by decide)
      · exact absurd (by decide) c739
    · refine lv_aload_n hx hb dL_law_696 rfl (lv_at hl 3 rfl) ?_
      refine lv_aload_n hx hb dL_law_697 rfl (lv_at hl 4 rfl) ?_
      refine lv_iload hx hb dL_law_698 (lv_at hl 0 rfl) ?_
      refine lv_iconst (v := 1) hx hb dL_law_700 (by decide) ?_
      refine lv_iadd hx hb dL_law_701 ?_
      rw [show (nI i) + 1 = nI (i + 1) from nI_add i 1]
      refine va_sld hx hb hX hbl hbA hS (vp_in_nI (by omega) (by omega)) dL_law_702 ?_
      rw [show (nI (i + 1)).toNatClampNeg = i + 1 from nI_clamp (by omega)]
      rw [h1]
      refine lv_aload_n hx hb dL_law_703 rfl (lv_at hl 4 rfl) ?_
      refine lv_iload hx hb dL_law_704 (lv_at hl 0 rfl) ?_
      refine lv_iconst (v := 2) hx hb dL_law_706 (by decide) ?_
      refine lv_iadd hx hb dL_law_707 ?_
      rw [show (nI i) + 2 = nI (i + 2) from nI_add i 2]
      refine va_sld hx hb hX hbl hbA hS (vp_in_nI (by omega) (by omega)) dL_law_708 ?_
      rw [show (nI (i + 2)).toNatClampNeg = i + 2 from nI_clamp (by omega)]
      rw [h2]
      refine lv_aload_n hx hb dL_law_709 rfl (lv_at hl 1 rfl) ?_
      refine g_LS (As := [.ref x0, .int (nI 0), .int (nI k), .ref o]) (rest := []) ⟨hx, hb, hml, hown, hts⟩ (mt_L_letter0 l htr dC dI cA cL H.size x0 r0 r1 r2 r3 rn a0 L0 f0 k o fo hR0 hk9) (vx_cwSW 4 hts gL_law_L_letter rfl rfl rfl hdL_letter ⟨Nat.le_of_ble_eq_true rfl, Nat.le_of_ble_eq_true rfl⟩) hP hKl hD hS hA hZ [0, 1, 2, 15] (by decide) rfl rfl hl.1 rfl (Nat.le_of_ble_eq_true rfl) dL_law_710 hc0 hs0 (fun u9 => [(x0, .inr (1, [.ref r0, .ref r1, .ref r2, .ref r3, .int (nI rn)])), (r0, .inr (0, [.ref a0, .int (nI L0.length)])), (a0, .inl (cA, (100, .inl f0))), (r1, .inr (0, [.ref a1, .int (nI L1.length)])), (a1, .inl (cA, (100, .inl f1))), (r2, .inr (0, [.ref a2, .int n2])), (a2, .inl (cA, (100, .inl f2))), (r3, .inr (0, [.ref a3, .int n3])), (a3, .inl (cA, (100, .inl f3))), (y0, .inr (2, [.int tv, .int (nI rn), .ref q1, .ref q2, .int mn, .ref q3, .ref q4, .int ct, .int il, .ref q5])), (q1, .inl (cA, (2, .inl sf))), (q2, .inl (cA, (60, .inl lf))), (q3, .inl (cA, (320, .inl rf))), (q4, .inl (cA, (320, .inl nf))), (q5, .inl (cA, (6, .inl gf))), (o, .inl (cL, (1, .inr (.inl (vp_updL fo 0 (atL L0 k).toInt64)))))]) (fun _ => rfl) (fun _ => rfl) (fun u H locs hw_1 hP hD hS => ?_)
      have hP : va_P (dC, dI) vwCl [(x0, .inr (1, [.ref r0, .ref r1, .ref r2, .ref r3, .int (nI rn)])), (r0, .inr (0, [.ref a0, .int (nI L0.length)])), (a0, .inl (cA, (100, .inl f0))), (r1, .inr (0, [.ref a1, .int (nI L1.length)])), (a1, .inl (cA, (100, .inl f1))), (r2, .inr (0, [.ref a2, .int n2])), (a2, .inl (cA, (100, .inl f2))), (r3, .inr (0, [.ref a3, .int n3])), (a3, .inl (cA, (100, .inl f3))), (y0, .inr (2, [.int tv, .int (nI rn), .ref q1, .ref q2, .int mn, .ref q3, .ref q4, .int ct, .int il, .ref q5])), (q1, .inl (cA, (2, .inl sf))), (q2, .inl (cA, (60, .inl lf))), (q3, .inl (cA, (320, .inl rf))), (q4, .inl (cA, (320, .inl nf))), (q5, .inl (cA, (6, .inl gf))), (o, .inl (cL, (1, .inr (.inl (vp_updL fo 0 (atL L0 k).toInt64)))))] H := hP
      have hD : va_D A [(x0, .inr (1, [.ref r0, .ref r1, .ref r2, .ref r3, .int (nI rn)])), (r0, .inr (0, [.ref a0, .int (nI L0.length)])), (a0, .inl (cA, (100, .inl f0))), (r1, .inr (0, [.ref a1, .int (nI L1.length)])), (a1, .inl (cA, (100, .inl f1))), (r2, .inr (0, [.ref a2, .int n2])), (a2, .inl (cA, (100, .inl f2))), (r3, .inr (0, [.ref a3, .int n3])), (a3, .inl (cA, (100, .inl f3))), (y0, .inr (2, [.int tv, .int (nI rn), .ref q1, .ref q2, .int mn, .ref q3, .ref q4, .int ct, .int il, .ref q5])), (q1, .inl (cA, (2, .inl sf))), (q2, .inl (cA, (60, .inl lf))), (q3, .inl (cA, (320, .inl rf))), (q4, .inl (cA, (320, .inl nf))), (q5, .inl (cA, (6, .inl gf))), (o, .inl (cL, (1, .inr (.inl (vp_updL fo 0 (atL L0 k).toInt64)))))] := hD
      refine lv_istore (lv' := [(5, .int 0), (4, .int (nI i)), (3, .ref o), (2, .ref y0), (1, .ref x0), (0, .ref b)]) hx hb dL_law_713 hl (by decide) rfl (fun ls hl => ?_)
      refine lv_aload_n hx hb dL_law_715 rfl (lv_at hl 3 rfl) ?_
      refine lv_aload_n hx hb dL_law_716 rfl (lv_at hl 5 rfl) ?_
      refine lv_iload hx hb dL_law_717 (lv_at hl 1 rfl) ?_
      refine lv_iconst (v := 1) hx hb dL_law_719 (by decide) ?_
      refine lv_iadd hx hb dL_law_720 ?_
      rw [show (nI i) + 1 = nI (i + 1) from nI_add i 1]
      refine va_sld hx hb hX hbl hbA hS (vp_in_nI (by omega) (by omega)) dL_law_721 ?_
      rw [show (nI (i + 1)).toNatClampNeg = i + 1 from nI_clamp (by omega)]
      rw [h1]
      refine lv_aload_n hx hb dL_law_722 rfl (lv_at hl 5 rfl) ?_
      refine lv_iload hx hb dL_law_723 (lv_at hl 1 rfl) ?_
      refine lv_iconst (v := 2) hx hb dL_law_725 (by decide) ?_
      refine lv_iadd hx hb dL_law_726 ?_
      rw [show (nI i) + 2 = nI (i + 2) from nI_add i 2]
      refine va_sld hx hb hX hbl hbA hS (vp_in_nI (by omega) (by omega)) dL_law_727 ?_
      rw [show (nI (i + 2)).toNatClampNeg = i + 2 from nI_clamp (by omega)]
      rw [h2]
      refine g_MVi (As := [.int (nI 0), .int (nI k)]) (rest := []) ⟨hx, hb, hml, hown, hts⟩ (mt_X2_letter l dC dI cA H.size y0 q1 q2 q3 q4 q5 rn tv sf lf mn rf nf ct il gf (V2 L0 L1) 0 k hW (by omega) hk9) (cwV 2 hts gL_law_X2_letter rfl rfl rfl hdX2_letter ⟨Nat.le_of_ble_eq_true rfl, Nat.le_of_ble_eq_true rfl⟩) hP hK hD hS hA [9, 10, 11, 12, 13, 14] (by decide) rfl (va_recv hK hP (ci := 2) (q0 := 9) rfl rfl) rfl hl.1 rfl (Nat.le_of_ble_eq_true rfl) dL_law_728 hc0 hs0 (fun u9 => [(x0, .inr (1, [.ref r0, .ref r1, .ref r2, .ref r3, .int (nI rn)])), (r0, .inr (0, [.ref a0, .int (nI L0.length)])), (a0, .inl (cA, (100, .inl f0))), (r1, .inr (0, [.ref a1, .int (nI L1.length)])), (a1, .inl (cA, (100, .inl f1))), (r2, .inr (0, [.ref a2, .int n2])), (a2, .inl (cA, (100, .inl f2))), (r3, .inr (0, [.ref a3, .int n3])), (a3, .inl (cA, (100, .inl f3))), (y0, .inr (2, [.int 0, .int (nI rn), .ref q1, .ref q2, .int mn, .ref q3, .ref q4, .int ct, .int il, .ref q5])), (q1, .inl (cA, (2, .inl sf))), (q2, .inl (cA, (60, .inl lf))), (q3, .inl (cA, (320, .inl rf))), (q4, .inl (cA, (320, .inl nf))), (q5, .inl (cA, (6, .inl gf))), (o, .inl (cL, (1, .inr (.inl (vp_updL fo 0 (atL L0 k).toInt64)))))]) (fun _ => rfl) (fun _ => rfl) (fun u H locs hw_2 hP hD hS => ?_)
      have hw_2 : True := hw_2
      have hP : va_P (dC, dI) vwCl [(x0, .inr (1, [.ref r0, .ref r1, .ref r2, .ref r3, .int (nI rn)])), (r0, .inr (0, [.ref a0, .int (nI L0.length)])), (a0, .inl (cA, (100, .inl f0))), (r1, .inr (0, [.ref a1, .int (nI L1.length)])), (a1, .inl (cA, (100, .inl f1))), (r2, .inr (0, [.ref a2, .int n2])), (a2, .inl (cA, (100, .inl f2))), (r3, .inr (0, [.ref a3, .int n3])), (a3, .inl (cA, (100, .inl f3))), (y0, .inr (2, [.int 0, .int (nI rn), .ref q1, .ref q2, .int mn, .ref q3, .ref q4, .int ct, .int il, .ref q5])), (q1, .inl (cA, (2, .inl sf))), (q2, .inl (cA, (60, .inl lf))), (q3, .inl (cA, (320, .inl rf))), (q4, .inl (cA, (320, .inl nf))), (q5, .inl (cA, (6, .inl gf))), (o, .inl (cL, (1, .inr (.inl (vp_updL fo 0 (atL L0 k).toInt64)))))] H := hP
      have hD : va_D A [(x0, .inr (1, [.ref r0, .ref r1, .ref r2, .ref r3, .int (nI rn)])), (r0, .inr (0, [.ref a0, .int (nI L0.length)])), (a0, .inl (cA, (100, .inl f0))), (r1, .inr (0, [.ref a1, .int (nI L1.length)])), (a1, .inl (cA, (100, .inl f1))), (r2, .inr (0, [.ref a2, .int n2])), (a2, .inl (cA, (100, .inl f2))), (r3, .inr (0, [.ref a3, .int n3])), (a3, .inl (cA, (100, .inl f3))), (y0, .inr (2, [.int 0, .int (nI rn), .ref q1, .ref q2, .int mn, .ref q3, .ref q4, .int ct, .int il, .ref q5])), (q1, .inl (cA, (2, .inl sf))), (q2, .inl (cA, (60, .inl lf))), (q3, .inl (cA, (320, .inl rf))), (q4, .inl (cA, (320, .inl nf))), (q5, .inl (cA, (6, .inl gf))), (o, .inl (cL, (1, .inr (.inl (vp_updL fo 0 (atL L0 k).toInt64)))))] := hD
      refine lv_istore (lv' := [(6, .int (atL ((V2 L0 L1) 0) k)), (5, .int 0), (4, .int (nI i)), (3, .ref o), (2, .ref y0), (1, .ref x0), (0, .ref b)]) hx hb dL_law_731 hl (by decide) rfl (fun ls hl => ?_)
      refine lv_aload_n hx hb dL_law_733 rfl (lv_at hl 4 rfl) ?_
      refine g_RVi (As := []) (rest := []) ⟨hx, hb, hml, hown, hts⟩ (mt_X2_thrown l dC dI cA H.size y0 q1 q2 q3 q4 q5 rn 0 sf lf mn rf nf ct il gf) (cwV 0 hts gL_law_X2_thrown rfl rfl rfl hdX2_thrown ⟨Nat.le_of_ble_eq_true rfl, Nat.le_of_ble_eq_true rfl⟩) hP hK hD [9, 10, 11, 12, 13, 14] (by decide) rfl (va_recv hK hP (ci := 2) (q0 := 9) rfl rfl) rfl hl.1 rfl (Nat.le_of_ble_eq_true rfl) dL_law_734 hc0 hs0 ?_
      refine lv_iload hx hb dL_law_737 (lv_at hl 1 rfl) ?_
      refine lv_icmp_eq (tgt := 744) hx hb dL_law_739 (by decide) (fun c739 => ?_) (fun c739 => ?_)
      · refine lv_iload hx hb dL_law_744 (lv_at hl 1 rfl) ?_
        refine lv_if_ne (tgt := 761) hx hb dL_law_746 (by decide) (fun c746 => ?_) (fun c746 => ?_)
        · exact absurd (by decide) c746
        · have c746 : 0 = 0 := g_neF 0 0 (by omega) (by omega) c746
          refine lv_aload_n hx hb dL_law_749 rfl (lv_at hl 3 rfl) ?_
          refine lv_iconst (v := 0) hx hb dL_law_750 (by decide) ?_
          refine va_lald hx hb hKl hP 15 1 rfl rfl (vp_in_nI (n := 0) (by omega) (by decide)) dL_law_751 ?_
          rw [show (0 : Int32).toNatClampNeg = 0 from by decide, pk_uLs]
          refine lv_iload hx hb dL_law_752 (lv_at hl 0 rfl) ?_
          refine lv_i2l (v := (atL ((V2 L0 L1) 0) k).toInt64) hx hb dL_law_754 rfl ?_
          refine W.lcmp hx hb dL_law_755 ?_
          rw [show lg_cmp ((atL L0 k).toInt64) ((atL ((V2 L0 L1) 0) k).toInt64) = 0 from (lg_cmp_eq _ _).mpr rfl]
          refine lv_if_eq (tgt := 761) hx hb dL_law_756 (by decide) (fun c756 => ?_) (fun c756 => ?_)
          · have c756 : 0 = 0 := g_eqT 0 0 (by omega) (by omega) c756
            refine lv_goto (tgt := 1241) hx hb dL_law_761 (by decide) ?_
            exact kk rn L0 L1 _ _ _ _ _ ⟨f0, f1, n2, f2, n3, f3, 0, sf, lf, mn, rf, nf, ct, il, gf, vp_updL fo 0 (atL L0 k).toInt64, hP, hD, hS, hR0, hR1, hl0, hl1, hrn, hr6, hk0, hk1, hW⟩ (by omega) (by omega) (lv_sub hl [2, 3, 4, 5, 6] rfl)
          · exact absurd (by decide) c756
      · exact absurd (by decide) c739
  · rcases pk_ix (xs (i + 2)) (n := L1.length) (by omega) with hbad | hbad | ⟨k, hk9, h2⟩
    · refine lv_aload_n hx hb dL_law_696 rfl (lv_at hl 3 rfl) ?_
      refine lv_aload_n hx hb dL_law_697 rfl (lv_at hl 4 rfl) ?_
      refine lv_iload hx hb dL_law_698 (lv_at hl 0 rfl) ?_
      refine lv_iconst (v := 1) hx hb dL_law_700 (by decide) ?_
      refine lv_iadd hx hb dL_law_701 ?_
      rw [show (nI i) + 1 = nI (i + 1) from nI_add i 1]
      refine va_sld hx hb hX hbl hbA hS (vp_in_nI (by omega) (by omega)) dL_law_702 ?_
      rw [show (nI (i + 1)).toNatClampNeg = i + 1 from nI_clamp (by omega)]
      rw [h1]
      refine lv_aload_n hx hb dL_law_703 rfl (lv_at hl 4 rfl) ?_
      refine lv_iload hx hb dL_law_704 (lv_at hl 0 rfl) ?_
      refine lv_iconst (v := 2) hx hb dL_law_706 (by decide) ?_
      refine lv_iadd hx hb dL_law_707 ?_
      rw [show (nI i) + 2 = nI (i + 2) from nI_add i 2]
      refine va_sld hx hb hX hbl hbA hS (vp_in_nI (by omega) (by omega)) dL_law_708 ?_
      rw [show (nI (i + 2)).toNatClampNeg = i + 2 from nI_clamp (by omega)]
      refine lv_aload_n hx hb dL_law_709 rfl (lv_at hl 1 rfl) ?_
      refine g_LS (As := [.ref x0, .int (nI 1), .int (xs (i + 2)), .ref o]) (rest := []) ⟨hx, hb, hml, hown, hts⟩ (mt_L_letter_1b_1 l htr dC dI cA cL H.size x0 r0 r1 r2 r3 rn a1 L1 f1 (xs (i + 2)) o fo hR1 (Or.inl hbad)) (vx_cwSW 4 hts gL_law_L_letter rfl rfl rfl hdL_letter ⟨Nat.le_of_ble_eq_true rfl, Nat.le_of_ble_eq_true rfl⟩) hP hKl hD hS hA hZ [0, 3, 4, 15] (by decide) rfl rfl hl.1 rfl (Nat.le_of_ble_eq_true rfl) dL_law_710 hc1 hs1 (fun u9 => [(x0, .inr (1, [.ref r0, .ref r1, .ref r2, .ref r3, .int (nI rn)])), (r0, .inr (0, [.ref a0, .int (nI L0.length)])), (a0, .inl (cA, (100, .inl f0))), (r1, .inr (0, [.ref a1, .int (nI L1.length)])), (a1, .inl (cA, (100, .inl f1))), (r2, .inr (0, [.ref a2, .int n2])), (a2, .inl (cA, (100, .inl f2))), (r3, .inr (0, [.ref a3, .int n3])), (a3, .inl (cA, (100, .inl f3))), (y0, .inr (2, [.int tv, .int (nI rn), .ref q1, .ref q2, .int mn, .ref q3, .ref q4, .int ct, .int il, .ref q5])), (q1, .inl (cA, (2, .inl sf))), (q2, .inl (cA, (60, .inl lf))), (q3, .inl (cA, (320, .inl rf))), (q4, .inl (cA, (320, .inl nf))), (q5, .inl (cA, (6, .inl gf))), (o, .inl (cL, (1, .inr (.inl fo))))]) (fun _ => rfl) (fun _ => rfl) (fun u H locs hw_1 hP hD hS => ?_)
      have hP : va_P (dC, dI) vwCl [(x0, .inr (1, [.ref r0, .ref r1, .ref r2, .ref r3, .int (nI rn)])), (r0, .inr (0, [.ref a0, .int (nI L0.length)])), (a0, .inl (cA, (100, .inl f0))), (r1, .inr (0, [.ref a1, .int (nI L1.length)])), (a1, .inl (cA, (100, .inl f1))), (r2, .inr (0, [.ref a2, .int n2])), (a2, .inl (cA, (100, .inl f2))), (r3, .inr (0, [.ref a3, .int n3])), (a3, .inl (cA, (100, .inl f3))), (y0, .inr (2, [.int tv, .int (nI rn), .ref q1, .ref q2, .int mn, .ref q3, .ref q4, .int ct, .int il, .ref q5])), (q1, .inl (cA, (2, .inl sf))), (q2, .inl (cA, (60, .inl lf))), (q3, .inl (cA, (320, .inl rf))), (q4, .inl (cA, (320, .inl nf))), (q5, .inl (cA, (6, .inl gf))), (o, .inl (cL, (1, .inr (.inl fo))))] H := hP
      have hD : va_D A [(x0, .inr (1, [.ref r0, .ref r1, .ref r2, .ref r3, .int (nI rn)])), (r0, .inr (0, [.ref a0, .int (nI L0.length)])), (a0, .inl (cA, (100, .inl f0))), (r1, .inr (0, [.ref a1, .int (nI L1.length)])), (a1, .inl (cA, (100, .inl f1))), (r2, .inr (0, [.ref a2, .int n2])), (a2, .inl (cA, (100, .inl f2))), (r3, .inr (0, [.ref a3, .int n3])), (a3, .inl (cA, (100, .inl f3))), (y0, .inr (2, [.int tv, .int (nI rn), .ref q1, .ref q2, .int mn, .ref q3, .ref q4, .int ct, .int il, .ref q5])), (q1, .inl (cA, (2, .inl sf))), (q2, .inl (cA, (60, .inl lf))), (q3, .inl (cA, (320, .inl rf))), (q4, .inl (cA, (320, .inl nf))), (q5, .inl (cA, (6, .inl gf))), (o, .inl (cL, (1, .inr (.inl fo))))] := hD
      refine lv_istore (lv' := [(5, .int 1), (4, .int (nI i)), (3, .ref o), (2, .ref y0), (1, .ref x0), (0, .ref b)]) hx hb dL_law_713 hl (by decide) rfl (fun ls hl => ?_)
      refine lv_aload_n hx hb dL_law_715 rfl (lv_at hl 3 rfl) ?_
      refine lv_aload_n hx hb dL_law_716 rfl (lv_at hl 5 rfl) ?_
      refine lv_iload hx hb dL_law_717 (lv_at hl 1 rfl) ?_
      refine lv_iconst (v := 1) hx hb dL_law_719 (by decide) ?_
      refine lv_iadd hx hb dL_law_720 ?_
      rw [show (nI i) + 1 = nI (i + 1) from nI_add i 1]
      refine va_sld hx hb hX hbl hbA hS (vp_in_nI (by omega) (by omega)) dL_law_721 ?_
      rw [show (nI (i + 1)).toNatClampNeg = i + 1 from nI_clamp (by omega)]
      rw [h1]
      refine lv_aload_n hx hb dL_law_722 rfl (lv_at hl 5 rfl) ?_
      refine lv_iload hx hb dL_law_723 (lv_at hl 1 rfl) ?_
      refine lv_iconst (v := 2) hx hb dL_law_725 (by decide) ?_
      refine lv_iadd hx hb dL_law_726 ?_
      rw [show (nI i) + 2 = nI (i + 2) from nI_add i 2]
      refine va_sld hx hb hX hbl hbA hS (vp_in_nI (by omega) (by omega)) dL_law_727 ?_
      rw [show (nI (i + 2)).toNatClampNeg = i + 2 from nI_clamp (by omega)]
      refine g_MVi (As := [.int (nI 1), .int (xs (i + 2))]) (rest := []) ⟨hx, hb, hml, hown, hts⟩ (mt_X2_letter_1b l dC dI cA H.size y0 q1 q2 q3 q4 q5 rn tv sf lf mn rf nf ct il gf (V2 L0 L1) 1 (xs (i + 2)) hW (by omega) (Or.inl hbad)) (cwV 2 hts gL_law_X2_letter rfl rfl rfl hdX2_letter ⟨Nat.le_of_ble_eq_true rfl, Nat.le_of_ble_eq_true rfl⟩) hP hK hD hS hA [9, 10, 11, 12, 13, 14] (by decide) rfl (va_recv hK hP (ci := 2) (q0 := 9) rfl rfl) rfl hl.1 rfl (Nat.le_of_ble_eq_true rfl) dL_law_728 hc1 hs1 (fun u9 => [(x0, .inr (1, [.ref r0, .ref r1, .ref r2, .ref r3, .int (nI rn)])), (r0, .inr (0, [.ref a0, .int (nI L0.length)])), (a0, .inl (cA, (100, .inl f0))), (r1, .inr (0, [.ref a1, .int (nI L1.length)])), (a1, .inl (cA, (100, .inl f1))), (r2, .inr (0, [.ref a2, .int n2])), (a2, .inl (cA, (100, .inl f2))), (r3, .inr (0, [.ref a3, .int n3])), (a3, .inl (cA, (100, .inl f3))), (y0, .inr (2, [.int 1, .int (nI rn), .ref q1, .ref q2, .int mn, .ref q3, .ref q4, .int ct, .int il, .ref q5])), (q1, .inl (cA, (2, .inl sf))), (q2, .inl (cA, (60, .inl lf))), (q3, .inl (cA, (320, .inl rf))), (q4, .inl (cA, (320, .inl nf))), (q5, .inl (cA, (6, .inl gf))), (o, .inl (cL, (1, .inr (.inl fo))))]) (fun _ => rfl) (fun _ => rfl) (fun u H locs hw_2 hP hD hS => ?_)
      have hw_2 : True := hw_2
      have hP : va_P (dC, dI) vwCl [(x0, .inr (1, [.ref r0, .ref r1, .ref r2, .ref r3, .int (nI rn)])), (r0, .inr (0, [.ref a0, .int (nI L0.length)])), (a0, .inl (cA, (100, .inl f0))), (r1, .inr (0, [.ref a1, .int (nI L1.length)])), (a1, .inl (cA, (100, .inl f1))), (r2, .inr (0, [.ref a2, .int n2])), (a2, .inl (cA, (100, .inl f2))), (r3, .inr (0, [.ref a3, .int n3])), (a3, .inl (cA, (100, .inl f3))), (y0, .inr (2, [.int 1, .int (nI rn), .ref q1, .ref q2, .int mn, .ref q3, .ref q4, .int ct, .int il, .ref q5])), (q1, .inl (cA, (2, .inl sf))), (q2, .inl (cA, (60, .inl lf))), (q3, .inl (cA, (320, .inl rf))), (q4, .inl (cA, (320, .inl nf))), (q5, .inl (cA, (6, .inl gf))), (o, .inl (cL, (1, .inr (.inl fo))))] H := hP
      have hD : va_D A [(x0, .inr (1, [.ref r0, .ref r1, .ref r2, .ref r3, .int (nI rn)])), (r0, .inr (0, [.ref a0, .int (nI L0.length)])), (a0, .inl (cA, (100, .inl f0))), (r1, .inr (0, [.ref a1, .int (nI L1.length)])), (a1, .inl (cA, (100, .inl f1))), (r2, .inr (0, [.ref a2, .int n2])), (a2, .inl (cA, (100, .inl f2))), (r3, .inr (0, [.ref a3, .int n3])), (a3, .inl (cA, (100, .inl f3))), (y0, .inr (2, [.int 1, .int (nI rn), .ref q1, .ref q2, .int mn, .ref q3, .ref q4, .int ct, .int il, .ref q5])), (q1, .inl (cA, (2, .inl sf))), (q2, .inl (cA, (60, .inl lf))), (q3, .inl (cA, (320, .inl rf))), (q4, .inl (cA, (320, .inl nf))), (q5, .inl (cA, (6, .inl gf))), (o, .inl (cL, (1, .inr (.inl fo))))] := hD
      refine lv_istore (lv' := [(6, .int 0), (5, .int 1), (4, .int (nI i)), (3, .ref o), (2, .ref y0), (1, .ref x0), (0, .ref b)]) hx hb dL_law_731 hl (by decide) rfl (fun ls hl => ?_)
      refine lv_aload_n hx hb dL_law_733 rfl (lv_at hl 4 rfl) ?_
      refine g_RVi (As := []) (rest := []) ⟨hx, hb, hml, hown, hts⟩ (mt_X2_thrown l dC dI cA H.size y0 q1 q2 q3 q4 q5 rn 1 sf lf mn rf nf ct il gf) (cwV 0 hts gL_law_X2_thrown rfl rfl rfl hdX2_thrown ⟨Nat.le_of_ble_eq_true rfl, Nat.le_of_ble_eq_true rfl⟩) hP hK hD [9, 10, 11, 12, 13, 14] (by decide) rfl (va_recv hK hP (ci := 2) (q0 := 9) rfl rfl) rfl hl.1 rfl (Nat.le_of_ble_eq_true rfl) dL_law_734 hc1 hs1 ?_
      refine lv_iload hx hb dL_law_737 (lv_at hl 1 rfl) ?_
      refine lv_icmp_eq (tgt := 744) hx hb dL_law_739 (by decide) (fun c739 => ?_) (fun c739 => ?_)
      · refine lv_iload hx hb dL_law_744 (lv_at hl 1 rfl) ?_
        refine lv_if_ne (tgt := 761) hx hb dL_law_746 (by decide) (fun c746 => ?_) (fun c746 => ?_)
        · have c746 : ¬ 1 = 0 := g_neT 1 0 (by omega) (by omega) c746
          refine lv_goto (tgt := 1241) hx hb dL_law_761 (by decide) ?_
          exact kk rn L0 L1 _ _ _ _ _ ⟨f0, f1, n2, f2, n3, f3, 1, sf, lf, mn, rf, nf, ct, il, gf, fo, hP, hD, hS, hR0, hR1, hl0, hl1, hrn, hr6, hk0, hk1, hW⟩ (by omega) (by omega) (lv_sub hl [2, 3, 4, 5, 6] rfl)
        · exact absurd c746 (by decide)
      · exact absurd (by decide) c739
    · refine lv_aload_n hx hb dL_law_696 rfl (lv_at hl 3 rfl) ?_
      refine lv_aload_n hx hb dL_law_697 rfl (lv_at hl 4 rfl) ?_
      refine lv_iload hx hb dL_law_698 (lv_at hl 0 rfl) ?_
      refine lv_iconst (v := 1) hx hb dL_law_700 (by decide) ?_
      refine lv_iadd hx hb dL_law_701 ?_
      rw [show (nI i) + 1 = nI (i + 1) from nI_add i 1]
      refine va_sld hx hb hX hbl hbA hS (vp_in_nI (by omega) (by omega)) dL_law_702 ?_
      rw [show (nI (i + 1)).toNatClampNeg = i + 1 from nI_clamp (by omega)]
      rw [h1]
      refine lv_aload_n hx hb dL_law_703 rfl (lv_at hl 4 rfl) ?_
      refine lv_iload hx hb dL_law_704 (lv_at hl 0 rfl) ?_
      refine lv_iconst (v := 2) hx hb dL_law_706 (by decide) ?_
      refine lv_iadd hx hb dL_law_707 ?_
      rw [show (nI i) + 2 = nI (i + 2) from nI_add i 2]
      refine va_sld hx hb hX hbl hbA hS (vp_in_nI (by omega) (by omega)) dL_law_708 ?_
      rw [show (nI (i + 2)).toNatClampNeg = i + 2 from nI_clamp (by omega)]
      refine lv_aload_n hx hb dL_law_709 rfl (lv_at hl 1 rfl) ?_
      refine g_LS (As := [.ref x0, .int (nI 1), .int (xs (i + 2)), .ref o]) (rest := []) ⟨hx, hb, hml, hown, hts⟩ (mt_L_letter_1b_1 l htr dC dI cA cL H.size x0 r0 r1 r2 r3 rn a1 L1 f1 (xs (i + 2)) o fo hR1 (Or.inr hbad)) (vx_cwSW 4 hts gL_law_L_letter rfl rfl rfl hdL_letter ⟨Nat.le_of_ble_eq_true rfl, Nat.le_of_ble_eq_true rfl⟩) hP hKl hD hS hA hZ [0, 3, 4, 15] (by decide) rfl rfl hl.1 rfl (Nat.le_of_ble_eq_true rfl) dL_law_710 hc1 hs1 (fun u9 => [(x0, .inr (1, [.ref r0, .ref r1, .ref r2, .ref r3, .int (nI rn)])), (r0, .inr (0, [.ref a0, .int (nI L0.length)])), (a0, .inl (cA, (100, .inl f0))), (r1, .inr (0, [.ref a1, .int (nI L1.length)])), (a1, .inl (cA, (100, .inl f1))), (r2, .inr (0, [.ref a2, .int n2])), (a2, .inl (cA, (100, .inl f2))), (r3, .inr (0, [.ref a3, .int n3])), (a3, .inl (cA, (100, .inl f3))), (y0, .inr (2, [.int tv, .int (nI rn), .ref q1, .ref q2, .int mn, .ref q3, .ref q4, .int ct, .int il, .ref q5])), (q1, .inl (cA, (2, .inl sf))), (q2, .inl (cA, (60, .inl lf))), (q3, .inl (cA, (320, .inl rf))), (q4, .inl (cA, (320, .inl nf))), (q5, .inl (cA, (6, .inl gf))), (o, .inl (cL, (1, .inr (.inl fo))))]) (fun _ => rfl) (fun _ => rfl) (fun u H locs hw_1 hP hD hS => ?_)
      have hP : va_P (dC, dI) vwCl [(x0, .inr (1, [.ref r0, .ref r1, .ref r2, .ref r3, .int (nI rn)])), (r0, .inr (0, [.ref a0, .int (nI L0.length)])), (a0, .inl (cA, (100, .inl f0))), (r1, .inr (0, [.ref a1, .int (nI L1.length)])), (a1, .inl (cA, (100, .inl f1))), (r2, .inr (0, [.ref a2, .int n2])), (a2, .inl (cA, (100, .inl f2))), (r3, .inr (0, [.ref a3, .int n3])), (a3, .inl (cA, (100, .inl f3))), (y0, .inr (2, [.int tv, .int (nI rn), .ref q1, .ref q2, .int mn, .ref q3, .ref q4, .int ct, .int il, .ref q5])), (q1, .inl (cA, (2, .inl sf))), (q2, .inl (cA, (60, .inl lf))), (q3, .inl (cA, (320, .inl rf))), (q4, .inl (cA, (320, .inl nf))), (q5, .inl (cA, (6, .inl gf))), (o, .inl (cL, (1, .inr (.inl fo))))] H := hP
      have hD : va_D A [(x0, .inr (1, [.ref r0, .ref r1, .ref r2, .ref r3, .int (nI rn)])), (r0, .inr (0, [.ref a0, .int (nI L0.length)])), (a0, .inl (cA, (100, .inl f0))), (r1, .inr (0, [.ref a1, .int (nI L1.length)])), (a1, .inl (cA, (100, .inl f1))), (r2, .inr (0, [.ref a2, .int n2])), (a2, .inl (cA, (100, .inl f2))), (r3, .inr (0, [.ref a3, .int n3])), (a3, .inl (cA, (100, .inl f3))), (y0, .inr (2, [.int tv, .int (nI rn), .ref q1, .ref q2, .int mn, .ref q3, .ref q4, .int ct, .int il, .ref q5])), (q1, .inl (cA, (2, .inl sf))), (q2, .inl (cA, (60, .inl lf))), (q3, .inl (cA, (320, .inl rf))), (q4, .inl (cA, (320, .inl nf))), (q5, .inl (cA, (6, .inl gf))), (o, .inl (cL, (1, .inr (.inl fo))))] := hD
      refine lv_istore (lv' := [(5, .int 1), (4, .int (nI i)), (3, .ref o), (2, .ref y0), (1, .ref x0), (0, .ref b)]) hx hb dL_law_713 hl (by decide) rfl (fun ls hl => ?_)
      refine lv_aload_n hx hb dL_law_715 rfl (lv_at hl 3 rfl) ?_
      refine lv_aload_n hx hb dL_law_716 rfl (lv_at hl 5 rfl) ?_
      refine lv_iload hx hb dL_law_717 (lv_at hl 1 rfl) ?_
      refine lv_iconst (v := 1) hx hb dL_law_719 (by decide) ?_
      refine lv_iadd hx hb dL_law_720 ?_
      rw [show (nI i) + 1 = nI (i + 1) from nI_add i 1]
      refine va_sld hx hb hX hbl hbA hS (vp_in_nI (by omega) (by omega)) dL_law_721 ?_
      rw [show (nI (i + 1)).toNatClampNeg = i + 1 from nI_clamp (by omega)]
      rw [h1]
      refine lv_aload_n hx hb dL_law_722 rfl (lv_at hl 5 rfl) ?_
      refine lv_iload hx hb dL_law_723 (lv_at hl 1 rfl) ?_
      refine lv_iconst (v := 2) hx hb dL_law_725 (by decide) ?_
      refine lv_iadd hx hb dL_law_726 ?_
      rw [show (nI i) + 2 = nI (i + 2) from nI_add i 2]
      refine va_sld hx hb hX hbl hbA hS (vp_in_nI (by omega) (by omega)) dL_law_727 ?_
      rw [show (nI (i + 2)).toNatClampNeg = i + 2 from nI_clamp (by omega)]
      refine g_MVi (As := [.int (nI 1), .int (xs (i + 2))]) (rest := []) ⟨hx, hb, hml, hown, hts⟩ (mt_X2_letter_1b l dC dI cA H.size y0 q1 q2 q3 q4 q5 rn tv sf lf mn rf nf ct il gf (V2 L0 L1) 1 (xs (i + 2)) hW (by omega) (Or.inr hbad)) (cwV 2 hts gL_law_X2_letter rfl rfl rfl hdX2_letter ⟨Nat.le_of_ble_eq_true rfl, Nat.le_of_ble_eq_true rfl⟩) hP hK hD hS hA [9, 10, 11, 12, 13, 14] (by decide) rfl (va_recv hK hP (ci := 2) (q0 := 9) rfl rfl) rfl hl.1 rfl (Nat.le_of_ble_eq_true rfl) dL_law_728 hc1 hs1 (fun u9 => [(x0, .inr (1, [.ref r0, .ref r1, .ref r2, .ref r3, .int (nI rn)])), (r0, .inr (0, [.ref a0, .int (nI L0.length)])), (a0, .inl (cA, (100, .inl f0))), (r1, .inr (0, [.ref a1, .int (nI L1.length)])), (a1, .inl (cA, (100, .inl f1))), (r2, .inr (0, [.ref a2, .int n2])), (a2, .inl (cA, (100, .inl f2))), (r3, .inr (0, [.ref a3, .int n3])), (a3, .inl (cA, (100, .inl f3))), (y0, .inr (2, [.int 1, .int (nI rn), .ref q1, .ref q2, .int mn, .ref q3, .ref q4, .int ct, .int il, .ref q5])), (q1, .inl (cA, (2, .inl sf))), (q2, .inl (cA, (60, .inl lf))), (q3, .inl (cA, (320, .inl rf))), (q4, .inl (cA, (320, .inl nf))), (q5, .inl (cA, (6, .inl gf))), (o, .inl (cL, (1, .inr (.inl fo))))]) (fun _ => rfl) (fun _ => rfl) (fun u H locs hw_2 hP hD hS => ?_)
      have hw_2 : True := hw_2
      have hP : va_P (dC, dI) vwCl [(x0, .inr (1, [.ref r0, .ref r1, .ref r2, .ref r3, .int (nI rn)])), (r0, .inr (0, [.ref a0, .int (nI L0.length)])), (a0, .inl (cA, (100, .inl f0))), (r1, .inr (0, [.ref a1, .int (nI L1.length)])), (a1, .inl (cA, (100, .inl f1))), (r2, .inr (0, [.ref a2, .int n2])), (a2, .inl (cA, (100, .inl f2))), (r3, .inr (0, [.ref a3, .int n3])), (a3, .inl (cA, (100, .inl f3))), (y0, .inr (2, [.int 1, .int (nI rn), .ref q1, .ref q2, .int mn, .ref q3, .ref q4, .int ct, .int il, .ref q5])), (q1, .inl (cA, (2, .inl sf))), (q2, .inl (cA, (60, .inl lf))), (q3, .inl (cA, (320, .inl rf))), (q4, .inl (cA, (320, .inl nf))), (q5, .inl (cA, (6, .inl gf))), (o, .inl (cL, (1, .inr (.inl fo))))] H := hP
      have hD : va_D A [(x0, .inr (1, [.ref r0, .ref r1, .ref r2, .ref r3, .int (nI rn)])), (r0, .inr (0, [.ref a0, .int (nI L0.length)])), (a0, .inl (cA, (100, .inl f0))), (r1, .inr (0, [.ref a1, .int (nI L1.length)])), (a1, .inl (cA, (100, .inl f1))), (r2, .inr (0, [.ref a2, .int n2])), (a2, .inl (cA, (100, .inl f2))), (r3, .inr (0, [.ref a3, .int n3])), (a3, .inl (cA, (100, .inl f3))), (y0, .inr (2, [.int 1, .int (nI rn), .ref q1, .ref q2, .int mn, .ref q3, .ref q4, .int ct, .int il, .ref q5])), (q1, .inl (cA, (2, .inl sf))), (q2, .inl (cA, (60, .inl lf))), (q3, .inl (cA, (320, .inl rf))), (q4, .inl (cA, (320, .inl nf))), (q5, .inl (cA, (6, .inl gf))), (o, .inl (cL, (1, .inr (.inl fo))))] := hD
      refine lv_istore (lv' := [(6, .int 0), (5, .int 1), (4, .int (nI i)), (3, .ref o), (2, .ref y0), (1, .ref x0), (0, .ref b)]) hx hb dL_law_731 hl (by decide) rfl (fun ls hl => ?_)
      refine lv_aload_n hx hb dL_law_733 rfl (lv_at hl 4 rfl) ?_
      refine g_RVi (As := []) (rest := []) ⟨hx, hb, hml, hown, hts⟩ (mt_X2_thrown l dC dI cA H.size y0 q1 q2 q3 q4 q5 rn 1 sf lf mn rf nf ct il gf) (cwV 0 hts gL_law_X2_thrown rfl rfl rfl hdX2_thrown ⟨Nat.le_of_ble_eq_true rfl, Nat.le_of_ble_eq_true rfl⟩) hP hK hD [9, 10, 11, 12, 13, 14] (by decide) rfl (va_recv hK hP (ci := 2) (q0 := 9) rfl rfl) rfl hl.1 rfl (Nat.le_of_ble_eq_true rfl) dL_law_734 hc1 hs1 ?_
      refine lv_iload hx hb dL_law_737 (lv_at hl 1 rfl) ?_
      refine lv_icmp_eq (tgt := 744) hx hb dL_law_739 (by decide) (fun c739 => ?_) (fun c739 => ?_)
      · refine lv_iload hx hb dL_law_744 (lv_at hl 1 rfl) ?_
        refine lv_if_ne (tgt := 761) hx hb dL_law_746 (by decide) (fun c746 => ?_) (fun c746 => ?_)
        · have c746 : ¬ 1 = 0 := g_neT 1 0 (by omega) (by omega) c746
          refine lv_goto (tgt := 1241) hx hb dL_law_761 (by decide) ?_
          exact kk rn L0 L1 _ _ _ _ _ ⟨f0, f1, n2, f2, n3, f3, 1, sf, lf, mn, rf, nf, ct, il, gf, fo, hP, hD, hS, hR0, hR1, hl0, hl1, hrn, hr6, hk0, hk1, hW⟩ (by omega) (by omega) (lv_sub hl [2, 3, 4, 5, 6] rfl)
        · exact absurd c746 (by decide)
      · exact absurd (by decide) c739
    · refine lv_aload_n hx hb dL_law_696 rfl (lv_at hl 3 rfl) ?_
      refine lv_aload_n hx hb dL_law_697 rfl (lv_at hl 4 rfl) ?_
      refine lv_iload hx hb dL_law_698 (lv_at hl 0 rfl) ?_
      refine lv_iconst (v := 1) hx hb dL_law_700 (by decide) ?_
      refine lv_iadd hx hb dL_law_701 ?_
      rw [show (nI i) + 1 = nI (i + 1) from nI_add i 1]
      refine va_sld hx hb hX hbl hbA hS (vp_in_nI (by omega) (by omega)) dL_law_702 ?_
      rw [show (nI (i + 1)).toNatClampNeg = i + 1 from nI_clamp (by omega)]
      rw [h1]
      refine lv_aload_n hx hb dL_law_703 rfl (lv_at hl 4 rfl) ?_
      refine lv_iload hx hb dL_law_704 (lv_at hl 0 rfl) ?_
      refine lv_iconst (v := 2) hx hb dL_law_706 (by decide) ?_
      refine lv_iadd hx hb dL_law_707 ?_
      rw [show (nI i) + 2 = nI (i + 2) from nI_add i 2]
      refine va_sld hx hb hX hbl hbA hS (vp_in_nI (by omega) (by omega)) dL_law_708 ?_
      rw [show (nI (i + 2)).toNatClampNeg = i + 2 from nI_clamp (by omega)]
      rw [h2]
      refine lv_aload_n hx hb dL_law_709 rfl (lv_at hl 1 rfl) ?_
      refine g_LS (As := [.ref x0, .int (nI 1), .int (nI k), .ref o]) (rest := []) ⟨hx, hb, hml, hown, hts⟩ (mt_L_letter1 l htr dC dI cA cL H.size x0 r0 r1 r2 r3 rn a1 L1 f1 k o fo hR1 hk9) (vx_cwSW 4 hts gL_law_L_letter rfl rfl rfl hdL_letter ⟨Nat.le_of_ble_eq_true rfl, Nat.le_of_ble_eq_true rfl⟩) hP hKl hD hS hA hZ [0, 3, 4, 15] (by decide) rfl rfl hl.1 rfl (Nat.le_of_ble_eq_true rfl) dL_law_710 hc0 hs0 (fun u9 => [(x0, .inr (1, [.ref r0, .ref r1, .ref r2, .ref r3, .int (nI rn)])), (r0, .inr (0, [.ref a0, .int (nI L0.length)])), (a0, .inl (cA, (100, .inl f0))), (r1, .inr (0, [.ref a1, .int (nI L1.length)])), (a1, .inl (cA, (100, .inl f1))), (r2, .inr (0, [.ref a2, .int n2])), (a2, .inl (cA, (100, .inl f2))), (r3, .inr (0, [.ref a3, .int n3])), (a3, .inl (cA, (100, .inl f3))), (y0, .inr (2, [.int tv, .int (nI rn), .ref q1, .ref q2, .int mn, .ref q3, .ref q4, .int ct, .int il, .ref q5])), (q1, .inl (cA, (2, .inl sf))), (q2, .inl (cA, (60, .inl lf))), (q3, .inl (cA, (320, .inl rf))), (q4, .inl (cA, (320, .inl nf))), (q5, .inl (cA, (6, .inl gf))), (o, .inl (cL, (1, .inr (.inl (vp_updL fo 0 (atL L1 k).toInt64)))))]) (fun _ => rfl) (fun _ => rfl) (fun u H locs hw_1 hP hD hS => ?_)
      have hP : va_P (dC, dI) vwCl [(x0, .inr (1, [.ref r0, .ref r1, .ref r2, .ref r3, .int (nI rn)])), (r0, .inr (0, [.ref a0, .int (nI L0.length)])), (a0, .inl (cA, (100, .inl f0))), (r1, .inr (0, [.ref a1, .int (nI L1.length)])), (a1, .inl (cA, (100, .inl f1))), (r2, .inr (0, [.ref a2, .int n2])), (a2, .inl (cA, (100, .inl f2))), (r3, .inr (0, [.ref a3, .int n3])), (a3, .inl (cA, (100, .inl f3))), (y0, .inr (2, [.int tv, .int (nI rn), .ref q1, .ref q2, .int mn, .ref q3, .ref q4, .int ct, .int il, .ref q5])), (q1, .inl (cA, (2, .inl sf))), (q2, .inl (cA, (60, .inl lf))), (q3, .inl (cA, (320, .inl rf))), (q4, .inl (cA, (320, .inl nf))), (q5, .inl (cA, (6, .inl gf))), (o, .inl (cL, (1, .inr (.inl (vp_updL fo 0 (atL L1 k).toInt64)))))] H := hP
      have hD : va_D A [(x0, .inr (1, [.ref r0, .ref r1, .ref r2, .ref r3, .int (nI rn)])), (r0, .inr (0, [.ref a0, .int (nI L0.length)])), (a0, .inl (cA, (100, .inl f0))), (r1, .inr (0, [.ref a1, .int (nI L1.length)])), (a1, .inl (cA, (100, .inl f1))), (r2, .inr (0, [.ref a2, .int n2])), (a2, .inl (cA, (100, .inl f2))), (r3, .inr (0, [.ref a3, .int n3])), (a3, .inl (cA, (100, .inl f3))), (y0, .inr (2, [.int tv, .int (nI rn), .ref q1, .ref q2, .int mn, .ref q3, .ref q4, .int ct, .int il, .ref q5])), (q1, .inl (cA, (2, .inl sf))), (q2, .inl (cA, (60, .inl lf))), (q3, .inl (cA, (320, .inl rf))), (q4, .inl (cA, (320, .inl nf))), (q5, .inl (cA, (6, .inl gf))), (o, .inl (cL, (1, .inr (.inl (vp_updL fo 0 (atL L1 k).toInt64)))))] := hD
      refine lv_istore (lv' := [(5, .int 0), (4, .int (nI i)), (3, .ref o), (2, .ref y0), (1, .ref x0), (0, .ref b)]) hx hb dL_law_713 hl (by decide) rfl (fun ls hl => ?_)
      refine lv_aload_n hx hb dL_law_715 rfl (lv_at hl 3 rfl) ?_
      refine lv_aload_n hx hb dL_law_716 rfl (lv_at hl 5 rfl) ?_
      refine lv_iload hx hb dL_law_717 (lv_at hl 1 rfl) ?_
      refine lv_iconst (v := 1) hx hb dL_law_719 (by decide) ?_
      refine lv_iadd hx hb dL_law_720 ?_
      rw [show (nI i) + 1 = nI (i + 1) from nI_add i 1]
      refine va_sld hx hb hX hbl hbA hS (vp_in_nI (by omega) (by omega)) dL_law_721 ?_
      rw [show (nI (i + 1)).toNatClampNeg = i + 1 from nI_clamp (by omega)]
      rw [h1]
      refine lv_aload_n hx hb dL_law_722 rfl (lv_at hl 5 rfl) ?_
      refine lv_iload hx hb dL_law_723 (lv_at hl 1 rfl) ?_
      refine lv_iconst (v := 2) hx hb dL_law_725 (by decide) ?_
      refine lv_iadd hx hb dL_law_726 ?_
      rw [show (nI i) + 2 = nI (i + 2) from nI_add i 2]
      refine va_sld hx hb hX hbl hbA hS (vp_in_nI (by omega) (by omega)) dL_law_727 ?_
      rw [show (nI (i + 2)).toNatClampNeg = i + 2 from nI_clamp (by omega)]
      rw [h2]
      refine g_MVi (As := [.int (nI 1), .int (nI k)]) (rest := []) ⟨hx, hb, hml, hown, hts⟩ (mt_X2_letter l dC dI cA H.size y0 q1 q2 q3 q4 q5 rn tv sf lf mn rf nf ct il gf (V2 L0 L1) 1 k hW (by omega) hk9) (cwV 2 hts gL_law_X2_letter rfl rfl rfl hdX2_letter ⟨Nat.le_of_ble_eq_true rfl, Nat.le_of_ble_eq_true rfl⟩) hP hK hD hS hA [9, 10, 11, 12, 13, 14] (by decide) rfl (va_recv hK hP (ci := 2) (q0 := 9) rfl rfl) rfl hl.1 rfl (Nat.le_of_ble_eq_true rfl) dL_law_728 hc0 hs0 (fun u9 => [(x0, .inr (1, [.ref r0, .ref r1, .ref r2, .ref r3, .int (nI rn)])), (r0, .inr (0, [.ref a0, .int (nI L0.length)])), (a0, .inl (cA, (100, .inl f0))), (r1, .inr (0, [.ref a1, .int (nI L1.length)])), (a1, .inl (cA, (100, .inl f1))), (r2, .inr (0, [.ref a2, .int n2])), (a2, .inl (cA, (100, .inl f2))), (r3, .inr (0, [.ref a3, .int n3])), (a3, .inl (cA, (100, .inl f3))), (y0, .inr (2, [.int 0, .int (nI rn), .ref q1, .ref q2, .int mn, .ref q3, .ref q4, .int ct, .int il, .ref q5])), (q1, .inl (cA, (2, .inl sf))), (q2, .inl (cA, (60, .inl lf))), (q3, .inl (cA, (320, .inl rf))), (q4, .inl (cA, (320, .inl nf))), (q5, .inl (cA, (6, .inl gf))), (o, .inl (cL, (1, .inr (.inl (vp_updL fo 0 (atL L1 k).toInt64)))))]) (fun _ => rfl) (fun _ => rfl) (fun u H locs hw_2 hP hD hS => ?_)
      have hw_2 : True := hw_2
      have hP : va_P (dC, dI) vwCl [(x0, .inr (1, [.ref r0, .ref r1, .ref r2, .ref r3, .int (nI rn)])), (r0, .inr (0, [.ref a0, .int (nI L0.length)])), (a0, .inl (cA, (100, .inl f0))), (r1, .inr (0, [.ref a1, .int (nI L1.length)])), (a1, .inl (cA, (100, .inl f1))), (r2, .inr (0, [.ref a2, .int n2])), (a2, .inl (cA, (100, .inl f2))), (r3, .inr (0, [.ref a3, .int n3])), (a3, .inl (cA, (100, .inl f3))), (y0, .inr (2, [.int 0, .int (nI rn), .ref q1, .ref q2, .int mn, .ref q3, .ref q4, .int ct, .int il, .ref q5])), (q1, .inl (cA, (2, .inl sf))), (q2, .inl (cA, (60, .inl lf))), (q3, .inl (cA, (320, .inl rf))), (q4, .inl (cA, (320, .inl nf))), (q5, .inl (cA, (6, .inl gf))), (o, .inl (cL, (1, .inr (.inl (vp_updL fo 0 (atL L1 k).toInt64)))))] H := hP
      have hD : va_D A [(x0, .inr (1, [.ref r0, .ref r1, .ref r2, .ref r3, .int (nI rn)])), (r0, .inr (0, [.ref a0, .int (nI L0.length)])), (a0, .inl (cA, (100, .inl f0))), (r1, .inr (0, [.ref a1, .int (nI L1.length)])), (a1, .inl (cA, (100, .inl f1))), (r2, .inr (0, [.ref a2, .int n2])), (a2, .inl (cA, (100, .inl f2))), (r3, .inr (0, [.ref a3, .int n3])), (a3, .inl (cA, (100, .inl f3))), (y0, .inr (2, [.int 0, .int (nI rn), .ref q1, .ref q2, .int mn, .ref q3, .ref q4, .int ct, .int il, .ref q5])), (q1, .inl (cA, (2, .inl sf))), (q2, .inl (cA, (60, .inl lf))), (q3, .inl (cA, (320, .inl rf))), (q4, .inl (cA, (320, .inl nf))), (q5, .inl (cA, (6, .inl gf))), (o, .inl (cL, (1, .inr (.inl (vp_updL fo 0 (atL L1 k).toInt64)))))] := hD
      refine lv_istore (lv' := [(6, .int (atL ((V2 L0 L1) 1) k)), (5, .int 0), (4, .int (nI i)), (3, .ref o), (2, .ref y0), (1, .ref x0), (0, .ref b)]) hx hb dL_law_731 hl (by decide) rfl (fun ls hl => ?_)
      refine lv_aload_n hx hb dL_law_733 rfl (lv_at hl 4 rfl) ?_
      refine g_RVi (As := []) (rest := []) ⟨hx, hb, hml, hown, hts⟩ (mt_X2_thrown l dC dI cA H.size y0 q1 q2 q3 q4 q5 rn 0 sf lf mn rf nf ct il gf) (cwV 0 hts gL_law_X2_thrown rfl rfl rfl hdX2_thrown ⟨Nat.le_of_ble_eq_true rfl, Nat.le_of_ble_eq_true rfl⟩) hP hK hD [9, 10, 11, 12, 13, 14] (by decide) rfl (va_recv hK hP (ci := 2) (q0 := 9) rfl rfl) rfl hl.1 rfl (Nat.le_of_ble_eq_true rfl) dL_law_734 hc0 hs0 ?_
      refine lv_iload hx hb dL_law_737 (lv_at hl 1 rfl) ?_
      refine lv_icmp_eq (tgt := 744) hx hb dL_law_739 (by decide) (fun c739 => ?_) (fun c739 => ?_)
      · refine lv_iload hx hb dL_law_744 (lv_at hl 1 rfl) ?_
        refine lv_if_ne (tgt := 761) hx hb dL_law_746 (by decide) (fun c746 => ?_) (fun c746 => ?_)
        · exact absurd (by decide) c746
        · have c746 : 0 = 0 := g_neF 0 0 (by omega) (by omega) c746
          refine lv_aload_n hx hb dL_law_749 rfl (lv_at hl 3 rfl) ?_
          refine lv_iconst (v := 0) hx hb dL_law_750 (by decide) ?_
          refine va_lald hx hb hKl hP 15 1 rfl rfl (vp_in_nI (n := 0) (by omega) (by decide)) dL_law_751 ?_
          rw [show (0 : Int32).toNatClampNeg = 0 from by decide, pk_uLs]
          refine lv_iload hx hb dL_law_752 (lv_at hl 0 rfl) ?_
          refine lv_i2l (v := (atL ((V2 L0 L1) 1) k).toInt64) hx hb dL_law_754 rfl ?_
          refine W.lcmp hx hb dL_law_755 ?_
          rw [show lg_cmp ((atL L1 k).toInt64) ((atL ((V2 L0 L1) 1) k).toInt64) = 0 from (lg_cmp_eq _ _).mpr rfl]
          refine lv_if_eq (tgt := 761) hx hb dL_law_756 (by decide) (fun c756 => ?_) (fun c756 => ?_)
          · have c756 : 0 = 0 := g_eqT 0 0 (by omega) (by omega) c756
            refine lv_goto (tgt := 1241) hx hb dL_law_761 (by decide) ?_
            exact kk rn L0 L1 _ _ _ _ _ ⟨f0, f1, n2, f2, n3, f3, 0, sf, lf, mn, rf, nf, ct, il, gf, vp_updL fo 0 (atL L1 k).toInt64, hP, hD, hS, hR0, hR1, hl0, hl1, hrn, hr6, hk0, hk1, hW⟩ (by omega) (by omega) (lv_sub hl [2, 3, 4, 5, 6] rfl)
          · exact absurd (by decide) c756
      · exact absurd (by decide) c739

set_option maxHeartbeats 4000000 in
set_option maxRecDepth 100000 in
theorem lw_op_10 {p : Program} {l : Launch} {e : Env} {s : State} {m : MethodId} {below : List Frame} {meth : Method} {c : Code} {Q : State → Prop} {b L : Nat} {xs : Nat → Int32} {dC : Nat → ClassId} {dI : Nat → Nat → Nat} {cA cL : ClassId} {A : Nat → Prop} (E : lwE p l s m c b L xs dC dI cA cL A) {x0 r0 r1 r2 r3 a0 a1 a2 a3 y0 q1 q2 q3 q4 q5 o : Nat} {i : Nat} (hi : i + 4 ≤ L) {cells slots : Nat} (hC : cells + 1 ≤ 1053) (hS9 : slots + 6 ≤ 9402) {rn : Nat} {L0 L1 : List Int32} {H : Heap} {locs : List Loc} (hI : lwI dC dI cA cL A s.heap x0 r0 r1 r2 r3 a0 a1 a2 a3 y0 q1 q2 q3 q4 q5 o rn L0 L1 H locs) {ls : Array Slot} (hl : lv_has ls 9 [(4, .int (nI i)), (3, .ref o), (2, .ref y0), (1, .ref x0), (0, .ref b)])
    (kk : ∀ (rn : Nat) (L0 L1 : List Int32) (H : Heap) (locs : List Loc) (cells1 slots1 : Nat) (ls : Array Slot), lwI dC dI cA cL A s.heap x0 r0 r1 r2 r3 a0 a1 a2 a3 y0 q1 q2 q3 q4 q5 o rn L0 L1 H locs → cells1 ≤ cells + 1 → slots1 ≤ slots + 6 → lv_has ls 9 [(4, .int (nI i)), (3, .ref o), (2, .ref y0), (1, .ref x0), (0, .ref b)] → W p l e room_1 s m #[Value.ref b] below meth c H locs cells1 slots1 Q (F0 m 1241 ls [])) :
    W p l e room_1 s m #[Value.ref b] below meth c H locs cells slots Q (F0 m 764 ls []) := by
  obtain ⟨hx, hb, hml, hown, hts, hX, hbl, hbA, hA, htr, hKl, hZ, hL2⟩ := E
  obtain ⟨f0, f1, n2, f2, n3, f3, tv, sf, lf, mn, rf, nf, ct, il, gf, fo, hP, hD, hS, hR0, hR1, hl0, hl1, hrn, hr6, hk0, hk1, hW⟩ := hI
  have hK : va_K (dC, dI) vwCl [(cA, .int)] s := hKl.sub [0] rfl
  have hok := V2_ok hk0 hk1
  have hc0 : cells ≤ room_1.cells := (show cells ≤ 1053 from by omega)
  have hs0 : slots ≤ room_1.slots := (show slots ≤ 9402 from by omega)
  have hc1 : cells + 1 ≤ room_1.cells := hC
  have hs1 : slots + 6 ≤ room_1.slots := hS9
  rcases pk_ix (xs (i + 1)) (n := 5) (by decide) with hbad | hbad | ⟨q, hq, h1⟩
  · refine lv_aload_n hx hb dL_law_764 rfl (lv_at hl 3 rfl) ?_
    refine lv_aload_n hx hb dL_law_765 rfl (lv_at hl 4 rfl) ?_
    refine lv_iload hx hb dL_law_766 (lv_at hl 0 rfl) ?_
    refine lv_iconst (v := 1) hx hb dL_law_768 (by decide) ?_
    refine lv_iadd hx hb dL_law_769 ?_
    rw [show (nI i) + 1 = nI (i + 1) from nI_add i 1]
    refine va_sld hx hb hX hbl hbA hS (vp_in_nI (by omega) (by omega)) dL_law_770 ?_
    rw [show (nI (i + 1)).toNatClampNeg = i + 1 from nI_clamp (by omega)]
    refine lv_aload_n hx hb dL_law_771 rfl (lv_at hl 1 rfl) ?_
    refine g_LS (As := [.ref x0, .int (xs (i + 1)), .ref o]) (rest := []) ⟨hx, hb, hml, hown, hts⟩ (mt_L_count_1 l htr dC dI cA cL H.size x0 (xs (i + 1)) r0 r1 r2 r3 (nI rn) o fo (Or.inl hbad)) (vx_cwSW 3 hts gL_law_L_count rfl rfl rfl hdL_count ⟨Nat.le_of_ble_eq_true rfl, Nat.le_of_ble_eq_true rfl⟩) hP hKl hD hS hA hZ [0, 15] (by decide) rfl rfl hl.1 rfl (Nat.le_of_ble_eq_true rfl) dL_law_772 hc1 hs1 (fun u9 => [(x0, .inr (1, [.ref r0, .ref r1, .ref r2, .ref r3, .int (nI rn)])), (r0, .inr (0, [.ref a0, .int (nI L0.length)])), (a0, .inl (cA, (100, .inl f0))), (r1, .inr (0, [.ref a1, .int (nI L1.length)])), (a1, .inl (cA, (100, .inl f1))), (r2, .inr (0, [.ref a2, .int n2])), (a2, .inl (cA, (100, .inl f2))), (r3, .inr (0, [.ref a3, .int n3])), (a3, .inl (cA, (100, .inl f3))), (y0, .inr (2, [.int tv, .int (nI rn), .ref q1, .ref q2, .int mn, .ref q3, .ref q4, .int ct, .int il, .ref q5])), (q1, .inl (cA, (2, .inl sf))), (q2, .inl (cA, (60, .inl lf))), (q3, .inl (cA, (320, .inl rf))), (q4, .inl (cA, (320, .inl nf))), (q5, .inl (cA, (6, .inl gf))), (o, .inl (cL, (1, .inr (.inl fo))))]) (fun _ => rfl) (fun _ => rfl) (fun u H locs hw_1 hP hD hS => ?_)
    have hP : va_P (dC, dI) vwCl [(x0, .inr (1, [.ref r0, .ref r1, .ref r2, .ref r3, .int (nI rn)])), (r0, .inr (0, [.ref a0, .int (nI L0.length)])), (a0, .inl (cA, (100, .inl f0))), (r1, .inr (0, [.ref a1, .int (nI L1.length)])), (a1, .inl (cA, (100, .inl f1))), (r2, .inr (0, [.ref a2, .int n2])), (a2, .inl (cA, (100, .inl f2))), (r3, .inr (0, [.ref a3, .int n3])), (a3, .inl (cA, (100, .inl f3))), (y0, .inr (2, [.int tv, .int (nI rn), .ref q1, .ref q2, .int mn, .ref q3, .ref q4, .int ct, .int il, .ref q5])), (q1, .inl (cA, (2, .inl sf))), (q2, .inl (cA, (60, .inl lf))), (q3, .inl (cA, (320, .inl rf))), (q4, .inl (cA, (320, .inl nf))), (q5, .inl (cA, (6, .inl gf))), (o, .inl (cL, (1, .inr (.inl fo))))] H := hP
    have hD : va_D A [(x0, .inr (1, [.ref r0, .ref r1, .ref r2, .ref r3, .int (nI rn)])), (r0, .inr (0, [.ref a0, .int (nI L0.length)])), (a0, .inl (cA, (100, .inl f0))), (r1, .inr (0, [.ref a1, .int (nI L1.length)])), (a1, .inl (cA, (100, .inl f1))), (r2, .inr (0, [.ref a2, .int n2])), (a2, .inl (cA, (100, .inl f2))), (r3, .inr (0, [.ref a3, .int n3])), (a3, .inl (cA, (100, .inl f3))), (y0, .inr (2, [.int tv, .int (nI rn), .ref q1, .ref q2, .int mn, .ref q3, .ref q4, .int ct, .int il, .ref q5])), (q1, .inl (cA, (2, .inl sf))), (q2, .inl (cA, (60, .inl lf))), (q3, .inl (cA, (320, .inl rf))), (q4, .inl (cA, (320, .inl nf))), (q5, .inl (cA, (6, .inl gf))), (o, .inl (cL, (1, .inr (.inl fo))))] := hD
    refine lv_istore (lv' := [(5, .int 1), (4, .int (nI i)), (3, .ref o), (2, .ref y0), (1, .ref x0), (0, .ref b)]) hx hb dL_law_775 hl (by decide) rfl (fun ls hl => ?_)
    refine lv_aload_n hx hb dL_law_777 rfl (lv_at hl 3 rfl) ?_
    refine lv_aload_n hx hb dL_law_778 rfl (lv_at hl 5 rfl) ?_
    refine lv_iload hx hb dL_law_779 (lv_at hl 1 rfl) ?_
    refine lv_iconst (v := 1) hx hb dL_law_781 (by decide) ?_
    refine lv_iadd hx hb dL_law_782 ?_
    rw [show (nI i) + 1 = nI (i + 1) from nI_add i 1]
    refine va_sld hx hb hX hbl hbA hS (vp_in_nI (by omega) (by omega)) dL_law_783 ?_
    rw [show (nI (i + 1)).toNatClampNeg = i + 1 from nI_clamp (by omega)]
    refine g_MVi (As := [.int (xs (i + 1))]) (rest := []) ⟨hx, hb, hml, hown, hts⟩ (mt_X2_count_1 l dC dI cA H.size y0 q1 q2 q3 q4 q5 rn tv sf lf mn rf nf ct il gf (xs (i + 1)) (Or.inl hbad)) (cwV 1 hts gL_law_X2_count rfl rfl rfl hdX2_count ⟨Nat.le_of_ble_eq_true rfl, Nat.le_of_ble_eq_true rfl⟩) hP hK hD hS hA [9, 10, 11, 12, 13, 14] (by decide) rfl (va_recv hK hP (ci := 2) (q0 := 9) rfl rfl) rfl hl.1 rfl (Nat.le_of_ble_eq_true rfl) dL_law_784 hc1 hs1 (fun u9 => [(x0, .inr (1, [.ref r0, .ref r1, .ref r2, .ref r3, .int (nI rn)])), (r0, .inr (0, [.ref a0, .int (nI L0.length)])), (a0, .inl (cA, (100, .inl f0))), (r1, .inr (0, [.ref a1, .int (nI L1.length)])), (a1, .inl (cA, (100, .inl f1))), (r2, .inr (0, [.ref a2, .int n2])), (a2, .inl (cA, (100, .inl f2))), (r3, .inr (0, [.ref a3, .int n3])), (a3, .inl (cA, (100, .inl f3))), (y0, .inr (2, [.int 1, .int (nI rn), .ref q1, .ref q2, .int mn, .ref q3, .ref q4, .int ct, .int il, .ref q5])), (q1, .inl (cA, (2, .inl sf))), (q2, .inl (cA, (60, .inl lf))), (q3, .inl (cA, (320, .inl rf))), (q4, .inl (cA, (320, .inl nf))), (q5, .inl (cA, (6, .inl gf))), (o, .inl (cL, (1, .inr (.inl fo))))]) (fun _ => rfl) (fun _ => rfl) (fun u H locs hw_2 hP hD hS => ?_)
    have hw_2 : True := hw_2
    have hP : va_P (dC, dI) vwCl [(x0, .inr (1, [.ref r0, .ref r1, .ref r2, .ref r3, .int (nI rn)])), (r0, .inr (0, [.ref a0, .int (nI L0.length)])), (a0, .inl (cA, (100, .inl f0))), (r1, .inr (0, [.ref a1, .int (nI L1.length)])), (a1, .inl (cA, (100, .inl f1))), (r2, .inr (0, [.ref a2, .int n2])), (a2, .inl (cA, (100, .inl f2))), (r3, .inr (0, [.ref a3, .int n3])), (a3, .inl (cA, (100, .inl f3))), (y0, .inr (2, [.int 1, .int (nI rn), .ref q1, .ref q2, .int mn, .ref q3, .ref q4, .int ct, .int il, .ref q5])), (q1, .inl (cA, (2, .inl sf))), (q2, .inl (cA, (60, .inl lf))), (q3, .inl (cA, (320, .inl rf))), (q4, .inl (cA, (320, .inl nf))), (q5, .inl (cA, (6, .inl gf))), (o, .inl (cL, (1, .inr (.inl fo))))] H := hP
    have hD : va_D A [(x0, .inr (1, [.ref r0, .ref r1, .ref r2, .ref r3, .int (nI rn)])), (r0, .inr (0, [.ref a0, .int (nI L0.length)])), (a0, .inl (cA, (100, .inl f0))), (r1, .inr (0, [.ref a1, .int (nI L1.length)])), (a1, .inl (cA, (100, .inl f1))), (r2, .inr (0, [.ref a2, .int n2])), (a2, .inl (cA, (100, .inl f2))), (r3, .inr (0, [.ref a3, .int n3])), (a3, .inl (cA, (100, .inl f3))), (y0, .inr (2, [.int 1, .int (nI rn), .ref q1, .ref q2, .int mn, .ref q3, .ref q4, .int ct, .int il, .ref q5])), (q1, .inl (cA, (2, .inl sf))), (q2, .inl (cA, (60, .inl lf))), (q3, .inl (cA, (320, .inl rf))), (q4, .inl (cA, (320, .inl nf))), (q5, .inl (cA, (6, .inl gf))), (o, .inl (cL, (1, .inr (.inl fo))))] := hD
    refine lv_istore (lv' := [(6, .int 0), (5, .int 1), (4, .int (nI i)), (3, .ref o), (2, .ref y0), (1, .ref x0), (0, .ref b)]) hx hb dL_law_787 hl (by decide) rfl (fun ls hl => ?_)
    refine lv_aload_n hx hb dL_law_789 rfl (lv_at hl 4 rfl) ?_
    refine g_RVi (As := []) (rest := []) ⟨hx, hb, hml, hown, hts⟩ (mt_X2_thrown l dC dI cA H.size y0 q1 q2 q3 q4 q5 rn 1 sf lf mn rf nf ct il gf) (cwV 0 hts gL_law_X2_thrown rfl rfl rfl hdX2_thrown ⟨Nat.le_of_ble_eq_true rfl, Nat.le_of_ble_eq_true rfl⟩) hP hK hD [9, 10, 11, 12, 13, 14] (by decide) rfl (va_recv hK hP (ci := 2) (q0 := 9) rfl rfl) rfl hl.1 rfl (Nat.le_of_ble_eq_true rfl) dL_law_790 hc1 hs1 ?_
    refine lv_iload hx hb dL_law_793 (lv_at hl 1 rfl) ?_
    refine lv_icmp_eq (tgt := 800) hx hb dL_law_795 (by decide) (fun c795 => ?_) (fun c795 => ?_)
    · refine lv_iload hx hb dL_law_800 (lv_at hl 1 rfl) ?_
      refine lv_if_ne (tgt := 817) hx hb dL_law_802 (by decide) (fun c802 => ?_) (fun c802 => ?_)
      · have c802 : ¬ 1 = 0 := g_neT 1 0 (by omega) (by omega) c802
        refine lv_goto (tgt := 1241) hx hb dL_law_817 (by decide) ?_
        exact kk rn L0 L1 _ _ _ _ _ ⟨f0, f1, n2, f2, n3, f3, 1, sf, lf, mn, rf, nf, ct, il, gf, fo, hP, hD, hS, hR0, hR1, hl0, hl1, hrn, hr6, hk0, hk1, hW⟩ (by omega) (by omega) (lv_sub hl [2, 3, 4, 5, 6] rfl)
      · exact absurd c802 (by decide)
    · exact absurd (by decide) c795
  · refine lv_aload_n hx hb dL_law_764 rfl (lv_at hl 3 rfl) ?_
    refine lv_aload_n hx hb dL_law_765 rfl (lv_at hl 4 rfl) ?_
    refine lv_iload hx hb dL_law_766 (lv_at hl 0 rfl) ?_
    refine lv_iconst (v := 1) hx hb dL_law_768 (by decide) ?_
    refine lv_iadd hx hb dL_law_769 ?_
    rw [show (nI i) + 1 = nI (i + 1) from nI_add i 1]
    refine va_sld hx hb hX hbl hbA hS (vp_in_nI (by omega) (by omega)) dL_law_770 ?_
    rw [show (nI (i + 1)).toNatClampNeg = i + 1 from nI_clamp (by omega)]
    refine lv_aload_n hx hb dL_law_771 rfl (lv_at hl 1 rfl) ?_
    refine g_LS (As := [.ref x0, .int (xs (i + 1)), .ref o]) (rest := []) ⟨hx, hb, hml, hown, hts⟩ (mt_L_count_1 l htr dC dI cA cL H.size x0 (xs (i + 1)) r0 r1 r2 r3 (nI rn) o fo (Or.inr hbad)) (vx_cwSW 3 hts gL_law_L_count rfl rfl rfl hdL_count ⟨Nat.le_of_ble_eq_true rfl, Nat.le_of_ble_eq_true rfl⟩) hP hKl hD hS hA hZ [0, 15] (by decide) rfl rfl hl.1 rfl (Nat.le_of_ble_eq_true rfl) dL_law_772 hc1 hs1 (fun u9 => [(x0, .inr (1, [.ref r0, .ref r1, .ref r2, .ref r3, .int (nI rn)])), (r0, .inr (0, [.ref a0, .int (nI L0.length)])), (a0, .inl (cA, (100, .inl f0))), (r1, .inr (0, [.ref a1, .int (nI L1.length)])), (a1, .inl (cA, (100, .inl f1))), (r2, .inr (0, [.ref a2, .int n2])), (a2, .inl (cA, (100, .inl f2))), (r3, .inr (0, [.ref a3, .int n3])), (a3, .inl (cA, (100, .inl f3))), (y0, .inr (2, [.int tv, .int (nI rn), .ref q1, .ref q2, .int mn, .ref q3, .ref q4, .int ct, .int il, .ref q5])), (q1, .inl (cA, (2, .inl sf))), (q2, .inl (cA, (60, .inl lf))), (q3, .inl (cA, (320, .inl rf))), (q4, .inl (cA, (320, .inl nf))), (q5, .inl (cA, (6, .inl gf))), (o, .inl (cL, (1, .inr (.inl fo))))]) (fun _ => rfl) (fun _ => rfl) (fun u H locs hw_1 hP hD hS => ?_)
    have hP : va_P (dC, dI) vwCl [(x0, .inr (1, [.ref r0, .ref r1, .ref r2, .ref r3, .int (nI rn)])), (r0, .inr (0, [.ref a0, .int (nI L0.length)])), (a0, .inl (cA, (100, .inl f0))), (r1, .inr (0, [.ref a1, .int (nI L1.length)])), (a1, .inl (cA, (100, .inl f1))), (r2, .inr (0, [.ref a2, .int n2])), (a2, .inl (cA, (100, .inl f2))), (r3, .inr (0, [.ref a3, .int n3])), (a3, .inl (cA, (100, .inl f3))), (y0, .inr (2, [.int tv, .int (nI rn), .ref q1, .ref q2, .int mn, .ref q3, .ref q4, .int ct, .int il, .ref q5])), (q1, .inl (cA, (2, .inl sf))), (q2, .inl (cA, (60, .inl lf))), (q3, .inl (cA, (320, .inl rf))), (q4, .inl (cA, (320, .inl nf))), (q5, .inl (cA, (6, .inl gf))), (o, .inl (cL, (1, .inr (.inl fo))))] H := hP
    have hD : va_D A [(x0, .inr (1, [.ref r0, .ref r1, .ref r2, .ref r3, .int (nI rn)])), (r0, .inr (0, [.ref a0, .int (nI L0.length)])), (a0, .inl (cA, (100, .inl f0))), (r1, .inr (0, [.ref a1, .int (nI L1.length)])), (a1, .inl (cA, (100, .inl f1))), (r2, .inr (0, [.ref a2, .int n2])), (a2, .inl (cA, (100, .inl f2))), (r3, .inr (0, [.ref a3, .int n3])), (a3, .inl (cA, (100, .inl f3))), (y0, .inr (2, [.int tv, .int (nI rn), .ref q1, .ref q2, .int mn, .ref q3, .ref q4, .int ct, .int il, .ref q5])), (q1, .inl (cA, (2, .inl sf))), (q2, .inl (cA, (60, .inl lf))), (q3, .inl (cA, (320, .inl rf))), (q4, .inl (cA, (320, .inl nf))), (q5, .inl (cA, (6, .inl gf))), (o, .inl (cL, (1, .inr (.inl fo))))] := hD
    refine lv_istore (lv' := [(5, .int 1), (4, .int (nI i)), (3, .ref o), (2, .ref y0), (1, .ref x0), (0, .ref b)]) hx hb dL_law_775 hl (by decide) rfl (fun ls hl => ?_)
    refine lv_aload_n hx hb dL_law_777 rfl (lv_at hl 3 rfl) ?_
    refine lv_aload_n hx hb dL_law_778 rfl (lv_at hl 5 rfl) ?_
    refine lv_iload hx hb dL_law_779 (lv_at hl 1 rfl) ?_
    refine lv_iconst (v := 1) hx hb dL_law_781 (by decide) ?_
    refine lv_iadd hx hb dL_law_782 ?_
    rw [show (nI i) + 1 = nI (i + 1) from nI_add i 1]
    refine va_sld hx hb hX hbl hbA hS (vp_in_nI (by omega) (by omega)) dL_law_783 ?_
    rw [show (nI (i + 1)).toNatClampNeg = i + 1 from nI_clamp (by omega)]
    refine g_MVi (As := [.int (xs (i + 1))]) (rest := []) ⟨hx, hb, hml, hown, hts⟩ (mt_X2_count_1 l dC dI cA H.size y0 q1 q2 q3 q4 q5 rn tv sf lf mn rf nf ct il gf (xs (i + 1)) (Or.inr hbad)) (cwV 1 hts gL_law_X2_count rfl rfl rfl hdX2_count ⟨Nat.le_of_ble_eq_true rfl, Nat.le_of_ble_eq_true rfl⟩) hP hK hD hS hA [9, 10, 11, 12, 13, 14] (by decide) rfl (va_recv hK hP (ci := 2) (q0 := 9) rfl rfl) rfl hl.1 rfl (Nat.le_of_ble_eq_true rfl) dL_law_784 hc1 hs1 (fun u9 => [(x0, .inr (1, [.ref r0, .ref r1, .ref r2, .ref r3, .int (nI rn)])), (r0, .inr (0, [.ref a0, .int (nI L0.length)])), (a0, .inl (cA, (100, .inl f0))), (r1, .inr (0, [.ref a1, .int (nI L1.length)])), (a1, .inl (cA, (100, .inl f1))), (r2, .inr (0, [.ref a2, .int n2])), (a2, .inl (cA, (100, .inl f2))), (r3, .inr (0, [.ref a3, .int n3])), (a3, .inl (cA, (100, .inl f3))), (y0, .inr (2, [.int 1, .int (nI rn), .ref q1, .ref q2, .int mn, .ref q3, .ref q4, .int ct, .int il, .ref q5])), (q1, .inl (cA, (2, .inl sf))), (q2, .inl (cA, (60, .inl lf))), (q3, .inl (cA, (320, .inl rf))), (q4, .inl (cA, (320, .inl nf))), (q5, .inl (cA, (6, .inl gf))), (o, .inl (cL, (1, .inr (.inl fo))))]) (fun _ => rfl) (fun _ => rfl) (fun u H locs hw_2 hP hD hS => ?_)
    have hw_2 : True := hw_2
    have hP : va_P (dC, dI) vwCl [(x0, .inr (1, [.ref r0, .ref r1, .ref r2, .ref r3, .int (nI rn)])), (r0, .inr (0, [.ref a0, .int (nI L0.length)])), (a0, .inl (cA, (100, .inl f0))), (r1, .inr (0, [.ref a1, .int (nI L1.length)])), (a1, .inl (cA, (100, .inl f1))), (r2, .inr (0, [.ref a2, .int n2])), (a2, .inl (cA, (100, .inl f2))), (r3, .inr (0, [.ref a3, .int n3])), (a3, .inl (cA, (100, .inl f3))), (y0, .inr (2, [.int 1, .int (nI rn), .ref q1, .ref q2, .int mn, .ref q3, .ref q4, .int ct, .int il, .ref q5])), (q1, .inl (cA, (2, .inl sf))), (q2, .inl (cA, (60, .inl lf))), (q3, .inl (cA, (320, .inl rf))), (q4, .inl (cA, (320, .inl nf))), (q5, .inl (cA, (6, .inl gf))), (o, .inl (cL, (1, .inr (.inl fo))))] H := hP
    have hD : va_D A [(x0, .inr (1, [.ref r0, .ref r1, .ref r2, .ref r3, .int (nI rn)])), (r0, .inr (0, [.ref a0, .int (nI L0.length)])), (a0, .inl (cA, (100, .inl f0))), (r1, .inr (0, [.ref a1, .int (nI L1.length)])), (a1, .inl (cA, (100, .inl f1))), (r2, .inr (0, [.ref a2, .int n2])), (a2, .inl (cA, (100, .inl f2))), (r3, .inr (0, [.ref a3, .int n3])), (a3, .inl (cA, (100, .inl f3))), (y0, .inr (2, [.int 1, .int (nI rn), .ref q1, .ref q2, .int mn, .ref q3, .ref q4, .int ct, .int il, .ref q5])), (q1, .inl (cA, (2, .inl sf))), (q2, .inl (cA, (60, .inl lf))), (q3, .inl (cA, (320, .inl rf))), (q4, .inl (cA, (320, .inl nf))), (q5, .inl (cA, (6, .inl gf))), (o, .inl (cL, (1, .inr (.inl fo))))] := hD
    refine lv_istore (lv' := [(6, .int 0), (5, .int 1), (4, .int (nI i)), (3, .ref o), (2, .ref y0), (1, .ref x0), (0, .ref b)]) hx hb dL_law_787 hl (by decide) rfl (fun ls hl => ?_)
    refine lv_aload_n hx hb dL_law_789 rfl (lv_at hl 4 rfl) ?_
    refine g_RVi (As := []) (rest := []) ⟨hx, hb, hml, hown, hts⟩ (mt_X2_thrown l dC dI cA H.size y0 q1 q2 q3 q4 q5 rn 1 sf lf mn rf nf ct il gf) (cwV 0 hts gL_law_X2_thrown rfl rfl rfl hdX2_thrown ⟨Nat.le_of_ble_eq_true rfl, Nat.le_of_ble_eq_true rfl⟩) hP hK hD [9, 10, 11, 12, 13, 14] (by decide) rfl (va_recv hK hP (ci := 2) (q0 := 9) rfl rfl) rfl hl.1 rfl (Nat.le_of_ble_eq_true rfl) dL_law_790 hc1 hs1 ?_
    refine lv_iload hx hb dL_law_793 (lv_at hl 1 rfl) ?_
    refine lv_icmp_eq (tgt := 800) hx hb dL_law_795 (by decide) (fun c795 => ?_) (fun c795 => ?_)
    · refine lv_iload hx hb dL_law_800 (lv_at hl 1 rfl) ?_
      refine lv_if_ne (tgt := 817) hx hb dL_law_802 (by decide) (fun c802 => ?_) (fun c802 => ?_)
      · have c802 : ¬ 1 = 0 := g_neT 1 0 (by omega) (by omega) c802
        refine lv_goto (tgt := 1241) hx hb dL_law_817 (by decide) ?_
        exact kk rn L0 L1 _ _ _ _ _ ⟨f0, f1, n2, f2, n3, f3, 1, sf, lf, mn, rf, nf, ct, il, gf, fo, hP, hD, hS, hR0, hR1, hl0, hl1, hrn, hr6, hk0, hk1, hW⟩ (by omega) (by omega) (lv_sub hl [2, 3, 4, 5, 6] rfl)
      · exact absurd c802 (by decide)
    · exact absurd (by decide) c795
  · refine lv_aload_n hx hb dL_law_764 rfl (lv_at hl 3 rfl) ?_
    refine lv_aload_n hx hb dL_law_765 rfl (lv_at hl 4 rfl) ?_
    refine lv_iload hx hb dL_law_766 (lv_at hl 0 rfl) ?_
    refine lv_iconst (v := 1) hx hb dL_law_768 (by decide) ?_
    refine lv_iadd hx hb dL_law_769 ?_
    rw [show (nI i) + 1 = nI (i + 1) from nI_add i 1]
    refine va_sld hx hb hX hbl hbA hS (vp_in_nI (by omega) (by omega)) dL_law_770 ?_
    rw [show (nI (i + 1)).toNatClampNeg = i + 1 from nI_clamp (by omega)]
    rw [h1]
    refine lv_aload_n hx hb dL_law_771 rfl (lv_at hl 1 rfl) ?_
    refine g_LS (As := [.ref x0, .int (nI q), .ref o]) (rest := []) ⟨hx, hb, hml, hown, hts⟩ (mt_L_count l htr dC dI cA cL H.size x0 r0 r1 r2 r3 rn a0 a1 L0 f0 L1 f1 q o fo hR0 hR1 hq) (vx_cwSW 3 hts gL_law_L_count rfl rfl rfl hdL_count ⟨Nat.le_of_ble_eq_true rfl, Nat.le_of_ble_eq_true rfl⟩) hP hKl hD hS hA hZ [0, 1, 2, 3, 4, 15] (by decide) rfl rfl hl.1 rfl (Nat.le_of_ble_eq_true rfl) dL_law_772 hc0 hs0 (fun u9 => [(x0, .inr (1, [.ref r0, .ref r1, .ref r2, .ref r3, .int (nI rn)])), (r0, .inr (0, [.ref a0, .int (nI L0.length)])), (a0, .inl (cA, (100, .inl f0))), (r1, .inr (0, [.ref a1, .int (nI L1.length)])), (a1, .inl (cA, (100, .inl f1))), (r2, .inr (0, [.ref a2, .int n2])), (a2, .inl (cA, (100, .inl f2))), (r3, .inr (0, [.ref a3, .int n3])), (a3, .inl (cA, (100, .inl f3))), (y0, .inr (2, [.int tv, .int (nI rn), .ref q1, .ref q2, .int mn, .ref q3, .ref q4, .int ct, .int il, .ref q5])), (q1, .inl (cA, (2, .inl sf))), (q2, .inl (cA, (60, .inl lf))), (q3, .inl (cA, (320, .inl rf))), (q4, .inl (cA, (320, .inl nf))), (q5, .inl (cA, (6, .inl gf))), (o, .inl (cL, (1, .inr (.inl (vp_updL fo 0 (coI rn L0 L1 q).toInt64)))))]) (fun _ => rfl) (fun _ => rfl) (fun u H locs hw_1 hP hD hS => ?_)
    have hP : va_P (dC, dI) vwCl [(x0, .inr (1, [.ref r0, .ref r1, .ref r2, .ref r3, .int (nI rn)])), (r0, .inr (0, [.ref a0, .int (nI L0.length)])), (a0, .inl (cA, (100, .inl f0))), (r1, .inr (0, [.ref a1, .int (nI L1.length)])), (a1, .inl (cA, (100, .inl f1))), (r2, .inr (0, [.ref a2, .int n2])), (a2, .inl (cA, (100, .inl f2))), (r3, .inr (0, [.ref a3, .int n3])), (a3, .inl (cA, (100, .inl f3))), (y0, .inr (2, [.int tv, .int (nI rn), .ref q1, .ref q2, .int mn, .ref q3, .ref q4, .int ct, .int il, .ref q5])), (q1, .inl (cA, (2, .inl sf))), (q2, .inl (cA, (60, .inl lf))), (q3, .inl (cA, (320, .inl rf))), (q4, .inl (cA, (320, .inl nf))), (q5, .inl (cA, (6, .inl gf))), (o, .inl (cL, (1, .inr (.inl (vp_updL fo 0 (coI rn L0 L1 q).toInt64)))))] H := hP
    have hD : va_D A [(x0, .inr (1, [.ref r0, .ref r1, .ref r2, .ref r3, .int (nI rn)])), (r0, .inr (0, [.ref a0, .int (nI L0.length)])), (a0, .inl (cA, (100, .inl f0))), (r1, .inr (0, [.ref a1, .int (nI L1.length)])), (a1, .inl (cA, (100, .inl f1))), (r2, .inr (0, [.ref a2, .int n2])), (a2, .inl (cA, (100, .inl f2))), (r3, .inr (0, [.ref a3, .int n3])), (a3, .inl (cA, (100, .inl f3))), (y0, .inr (2, [.int tv, .int (nI rn), .ref q1, .ref q2, .int mn, .ref q3, .ref q4, .int ct, .int il, .ref q5])), (q1, .inl (cA, (2, .inl sf))), (q2, .inl (cA, (60, .inl lf))), (q3, .inl (cA, (320, .inl rf))), (q4, .inl (cA, (320, .inl nf))), (q5, .inl (cA, (6, .inl gf))), (o, .inl (cL, (1, .inr (.inl (vp_updL fo 0 (coI rn L0 L1 q).toInt64)))))] := hD
    refine lv_istore (lv' := [(5, .int 0), (4, .int (nI i)), (3, .ref o), (2, .ref y0), (1, .ref x0), (0, .ref b)]) hx hb dL_law_775 hl (by decide) rfl (fun ls hl => ?_)
    refine lv_aload_n hx hb dL_law_777 rfl (lv_at hl 3 rfl) ?_
    refine lv_aload_n hx hb dL_law_778 rfl (lv_at hl 5 rfl) ?_
    refine lv_iload hx hb dL_law_779 (lv_at hl 1 rfl) ?_
    refine lv_iconst (v := 1) hx hb dL_law_781 (by decide) ?_
    refine lv_iadd hx hb dL_law_782 ?_
    rw [show (nI i) + 1 = nI (i + 1) from nI_add i 1]
    refine va_sld hx hb hX hbl hbA hS (vp_in_nI (by omega) (by omega)) dL_law_783 ?_
    rw [show (nI (i + 1)).toNatClampNeg = i + 1 from nI_clamp (by omega)]
    rw [h1]
    refine g_MVi (As := [.int (nI q)]) (rest := []) ⟨hx, hb, hml, hown, hts⟩ (mt_X2_count l dC dI cA H.size y0 q1 q2 q3 q4 q5 rn tv sf lf mn rf nf ct il gf (V2 L0 L1) q hW hrn hr6 hok hq) (cwV 1 hts gL_law_X2_count rfl rfl rfl hdX2_count ⟨Nat.le_of_ble_eq_true rfl, Nat.le_of_ble_eq_true rfl⟩) hP hK hD hS hA [9, 10, 11, 12, 13, 14] (by decide) rfl (va_recv hK hP (ci := 2) (q0 := 9) rfl rfl) rfl hl.1 rfl (Nat.le_of_ble_eq_true rfl) dL_law_784 hc0 hs0 (fun u9 => [(x0, .inr (1, [.ref r0, .ref r1, .ref r2, .ref r3, .int (nI rn)])), (r0, .inr (0, [.ref a0, .int (nI L0.length)])), (a0, .inl (cA, (100, .inl f0))), (r1, .inr (0, [.ref a1, .int (nI L1.length)])), (a1, .inl (cA, (100, .inl f1))), (r2, .inr (0, [.ref a2, .int n2])), (a2, .inl (cA, (100, .inl f2))), (r3, .inr (0, [.ref a3, .int n3])), (a3, .inl (cA, (100, .inl f3))), (y0, .inr (2, [.int 0, .int (nI rn), .ref q1, .ref q2, .int mn, .ref q3, .ref q4, .int ct, .int il, .ref q5])), (q1, .inl (cA, (2, .inl sf))), (q2, .inl (cA, (60, .inl lf))), (q3, .inl (cA, (320, .inl rf))), (q4, .inl (cA, (320, .inl nf))), (q5, .inl (cA, (6, .inl gf))), (o, .inl (cL, (1, .inr (.inl (vp_updL fo 0 (coI rn L0 L1 q).toInt64)))))]) (fun _ => rfl) (fun _ => rfl) (fun u H locs hw_2 hP hD hS => ?_)
    have hw_2 : True := hw_2
    have hP : va_P (dC, dI) vwCl [(x0, .inr (1, [.ref r0, .ref r1, .ref r2, .ref r3, .int (nI rn)])), (r0, .inr (0, [.ref a0, .int (nI L0.length)])), (a0, .inl (cA, (100, .inl f0))), (r1, .inr (0, [.ref a1, .int (nI L1.length)])), (a1, .inl (cA, (100, .inl f1))), (r2, .inr (0, [.ref a2, .int n2])), (a2, .inl (cA, (100, .inl f2))), (r3, .inr (0, [.ref a3, .int n3])), (a3, .inl (cA, (100, .inl f3))), (y0, .inr (2, [.int 0, .int (nI rn), .ref q1, .ref q2, .int mn, .ref q3, .ref q4, .int ct, .int il, .ref q5])), (q1, .inl (cA, (2, .inl sf))), (q2, .inl (cA, (60, .inl lf))), (q3, .inl (cA, (320, .inl rf))), (q4, .inl (cA, (320, .inl nf))), (q5, .inl (cA, (6, .inl gf))), (o, .inl (cL, (1, .inr (.inl (vp_updL fo 0 (coI rn L0 L1 q).toInt64)))))] H := hP
    have hD : va_D A [(x0, .inr (1, [.ref r0, .ref r1, .ref r2, .ref r3, .int (nI rn)])), (r0, .inr (0, [.ref a0, .int (nI L0.length)])), (a0, .inl (cA, (100, .inl f0))), (r1, .inr (0, [.ref a1, .int (nI L1.length)])), (a1, .inl (cA, (100, .inl f1))), (r2, .inr (0, [.ref a2, .int n2])), (a2, .inl (cA, (100, .inl f2))), (r3, .inr (0, [.ref a3, .int n3])), (a3, .inl (cA, (100, .inl f3))), (y0, .inr (2, [.int 0, .int (nI rn), .ref q1, .ref q2, .int mn, .ref q3, .ref q4, .int ct, .int il, .ref q5])), (q1, .inl (cA, (2, .inl sf))), (q2, .inl (cA, (60, .inl lf))), (q3, .inl (cA, (320, .inl rf))), (q4, .inl (cA, (320, .inl nf))), (q5, .inl (cA, (6, .inl gf))), (o, .inl (cL, (1, .inr (.inl (vp_updL fo 0 (coI rn L0 L1 q).toInt64)))))] := hD
    refine lv_istore (lv' := [(6, .int (coI rn ((V2 L0 L1) 0) ((V2 L0 L1) 1) q)), (5, .int 0), (4, .int (nI i)), (3, .ref o), (2, .ref y0), (1, .ref x0), (0, .ref b)]) hx hb dL_law_787 hl (by decide) rfl (fun ls hl => ?_)
    refine lv_aload_n hx hb dL_law_789 rfl (lv_at hl 4 rfl) ?_
    refine g_RVi (As := []) (rest := []) ⟨hx, hb, hml, hown, hts⟩ (mt_X2_thrown l dC dI cA H.size y0 q1 q2 q3 q4 q5 rn 0 sf lf mn rf nf ct il gf) (cwV 0 hts gL_law_X2_thrown rfl rfl rfl hdX2_thrown ⟨Nat.le_of_ble_eq_true rfl, Nat.le_of_ble_eq_true rfl⟩) hP hK hD [9, 10, 11, 12, 13, 14] (by decide) rfl (va_recv hK hP (ci := 2) (q0 := 9) rfl rfl) rfl hl.1 rfl (Nat.le_of_ble_eq_true rfl) dL_law_790 hc0 hs0 ?_
    refine lv_iload hx hb dL_law_793 (lv_at hl 1 rfl) ?_
    refine lv_icmp_eq (tgt := 800) hx hb dL_law_795 (by decide) (fun c795 => ?_) (fun c795 => ?_)
    · refine lv_iload hx hb dL_law_800 (lv_at hl 1 rfl) ?_
      refine lv_if_ne (tgt := 817) hx hb dL_law_802 (by decide) (fun c802 => ?_) (fun c802 => ?_)
      · exact absurd (by decide) c802
      · have c802 : 0 = 0 := g_neF 0 0 (by omega) (by omega) c802
        refine lv_aload_n hx hb dL_law_805 rfl (lv_at hl 3 rfl) ?_
        refine lv_iconst (v := 0) hx hb dL_law_806 (by decide) ?_
        refine va_lald hx hb hKl hP 15 1 rfl rfl (vp_in_nI (n := 0) (by omega) (by decide)) dL_law_807 ?_
        rw [show (0 : Int32).toNatClampNeg = 0 from by decide, pk_uLs]
        refine lv_iload hx hb dL_law_808 (lv_at hl 0 rfl) ?_
        refine lv_i2l (v := (coI rn ((V2 L0 L1) 0) ((V2 L0 L1) 1) q).toInt64) hx hb dL_law_810 rfl ?_
        refine W.lcmp hx hb dL_law_811 ?_
        rw [show lg_cmp ((coI rn L0 L1 q).toInt64) ((coI rn ((V2 L0 L1) 0) ((V2 L0 L1) 1) q).toInt64) = 0 from (lg_cmp_eq _ _).mpr rfl]
        refine lv_if_eq (tgt := 817) hx hb dL_law_812 (by decide) (fun c812 => ?_) (fun c812 => ?_)
        · have c812 : 0 = 0 := g_eqT 0 0 (by omega) (by omega) c812
          refine lv_goto (tgt := 1241) hx hb dL_law_817 (by decide) ?_
          exact kk rn L0 L1 _ _ _ _ _ ⟨f0, f1, n2, f2, n3, f3, 0, sf, lf, mn, rf, nf, ct, il, gf, vp_updL fo 0 (coI rn L0 L1 q).toInt64, hP, hD, hS, hR0, hR1, hl0, hl1, hrn, hr6, hk0, hk1, hW⟩ (by omega) (by omega) (lv_sub hl [2, 3, 4, 5, 6] rfl)
        · exact absurd (by decide) c812
    · exact absurd (by decide) c795

set_option maxHeartbeats 4000000 in
set_option maxRecDepth 100000 in
theorem lw_op_11 {p : Program} {l : Launch} {e : Env} {s : State} {m : MethodId} {below : List Frame} {meth : Method} {c : Code} {Q : State → Prop} {b L : Nat} {xs : Nat → Int32} {dC : Nat → ClassId} {dI : Nat → Nat → Nat} {cA cL : ClassId} {A : Nat → Prop} (E : lwE p l s m c b L xs dC dI cA cL A) {x0 r0 r1 r2 r3 a0 a1 a2 a3 y0 q1 q2 q3 q4 q5 o : Nat} {i : Nat} (hi : i + 4 ≤ L) {cells slots : Nat} (hC : cells + 1 ≤ 1053) (hS9 : slots + 6 ≤ 9402) {rn : Nat} {L0 L1 : List Int32} {H : Heap} {locs : List Loc} (hI : lwI dC dI cA cL A s.heap x0 r0 r1 r2 r3 a0 a1 a2 a3 y0 q1 q2 q3 q4 q5 o rn L0 L1 H locs) {ls : Array Slot} (hl : lv_has ls 9 [(4, .int (nI i)), (3, .ref o), (2, .ref y0), (1, .ref x0), (0, .ref b)])
    (kk : ∀ (rn : Nat) (L0 L1 : List Int32) (H : Heap) (locs : List Loc) (cells1 slots1 : Nat) (ls : Array Slot), lwI dC dI cA cL A s.heap x0 r0 r1 r2 r3 a0 a1 a2 a3 y0 q1 q2 q3 q4 q5 o rn L0 L1 H locs → cells1 ≤ cells + 1 → slots1 ≤ slots + 6 → lv_has ls 9 [(4, .int (nI i)), (3, .ref o), (2, .ref y0), (1, .ref x0), (0, .ref b)] → W p l e room_1 s m #[Value.ref b] below meth c H locs cells1 slots1 Q (F0 m 1241 ls [])) :
    W p l e room_1 s m #[Value.ref b] below meth c H locs cells slots Q (F0 m 820 ls []) := by
  obtain ⟨hx, hb, hml, hown, hts, hX, hbl, hbA, hA, htr, hKl, hZ, hL2⟩ := E
  obtain ⟨f0, f1, n2, f2, n3, f3, tv, sf, lf, mn, rf, nf, ct, il, gf, fo, hP, hD, hS, hR0, hR1, hl0, hl1, hrn, hr6, hk0, hk1, hW⟩ := hI
  have hK : va_K (dC, dI) vwCl [(cA, .int)] s := hKl.sub [0] rfl
  have hok := V2_ok hk0 hk1
  have hc0 : cells ≤ room_1.cells := (show cells ≤ 1053 from by omega)
  have hs0 : slots ≤ room_1.slots := (show slots ≤ 9402 from by omega)
  have hc1 : cells + 1 ≤ room_1.cells := hC
  have hs1 : slots + 6 ≤ room_1.slots := hS9
  rcases wd_ix (xs (i + 1)) with hbad | h1 | h1
  · refine lv_aload_n hx hb dL_law_820 rfl (lv_at hl 3 rfl) ?_
    refine lv_aload_n hx hb dL_law_821 rfl (lv_at hl 4 rfl) ?_
    refine lv_iload hx hb dL_law_822 (lv_at hl 0 rfl) ?_
    refine lv_iconst (v := 1) hx hb dL_law_824 (by decide) ?_
    refine lv_iadd hx hb dL_law_825 ?_
    rw [show (nI i) + 1 = nI (i + 1) from nI_add i 1]
    refine va_sld hx hb hX hbl hbA hS (vp_in_nI (by omega) (by omega)) dL_law_826 ?_
    rw [show (nI (i + 1)).toNatClampNeg = i + 1 from nI_clamp (by omega)]
    refine lv_aload_n hx hb dL_law_827 rfl (lv_at hl 4 rfl) ?_
    refine lv_iload hx hb dL_law_828 (lv_at hl 0 rfl) ?_
    refine lv_iconst (v := 2) hx hb dL_law_830 (by decide) ?_
    refine lv_iadd hx hb dL_law_831 ?_
    rw [show (nI i) + 2 = nI (i + 2) from nI_add i 2]
    refine va_sld hx hb hX hbl hbA hS (vp_in_nI (by omega) (by omega)) dL_law_832 ?_
    rw [show (nI (i + 2)).toNatClampNeg = i + 2 from nI_clamp (by omega)]
    refine lv_aload_n hx hb dL_law_833 rfl (lv_at hl 1 rfl) ?_
    refine g_LS (As := [.ref x0, .int (xs (i + 1)), .int (xs (i + 2)), .ref o]) (rest := []) ⟨hx, hb, hml, hown, hts⟩ (mt_L_end_1 l htr dC dI cA cL H.size x0 (xs (i + 1)) (xs (i + 2)) r0 r1 r2 r3 (nI rn) o fo hbad) (vx_cwSW 4 hts gL_law_L_end rfl rfl rfl hdL_end ⟨Nat.le_of_ble_eq_true rfl, Nat.le_of_ble_eq_true rfl⟩) hP hKl hD hS hA hZ [0, 15] (by decide) rfl rfl hl.1 rfl (Nat.le_of_ble_eq_true rfl) dL_law_834 hc1 hs1 (fun u9 => [(x0, .inr (1, [.ref r0, .ref r1, .ref r2, .ref r3, .int (nI rn)])), (r0, .inr (0, [.ref a0, .int (nI L0.length)])), (a0, .inl (cA, (100, .inl f0))), (r1, .inr (0, [.ref a1, .int (nI L1.length)])), (a1, .inl (cA, (100, .inl f1))), (r2, .inr (0, [.ref a2, .int n2])), (a2, .inl (cA, (100, .inl f2))), (r3, .inr (0, [.ref a3, .int n3])), (a3, .inl (cA, (100, .inl f3))), (y0, .inr (2, [.int tv, .int (nI rn), .ref q1, .ref q2, .int mn, .ref q3, .ref q4, .int ct, .int il, .ref q5])), (q1, .inl (cA, (2, .inl sf))), (q2, .inl (cA, (60, .inl lf))), (q3, .inl (cA, (320, .inl rf))), (q4, .inl (cA, (320, .inl nf))), (q5, .inl (cA, (6, .inl gf))), (o, .inl (cL, (1, .inr (.inl fo))))]) (fun _ => rfl) (fun _ => rfl) (fun u H locs hw_1 hP hD hS => ?_)
    have hP : va_P (dC, dI) vwCl [(x0, .inr (1, [.ref r0, .ref r1, .ref r2, .ref r3, .int (nI rn)])), (r0, .inr (0, [.ref a0, .int (nI L0.length)])), (a0, .inl (cA, (100, .inl f0))), (r1, .inr (0, [.ref a1, .int (nI L1.length)])), (a1, .inl (cA, (100, .inl f1))), (r2, .inr (0, [.ref a2, .int n2])), (a2, .inl (cA, (100, .inl f2))), (r3, .inr (0, [.ref a3, .int n3])), (a3, .inl (cA, (100, .inl f3))), (y0, .inr (2, [.int tv, .int (nI rn), .ref q1, .ref q2, .int mn, .ref q3, .ref q4, .int ct, .int il, .ref q5])), (q1, .inl (cA, (2, .inl sf))), (q2, .inl (cA, (60, .inl lf))), (q3, .inl (cA, (320, .inl rf))), (q4, .inl (cA, (320, .inl nf))), (q5, .inl (cA, (6, .inl gf))), (o, .inl (cL, (1, .inr (.inl fo))))] H := hP
    have hD : va_D A [(x0, .inr (1, [.ref r0, .ref r1, .ref r2, .ref r3, .int (nI rn)])), (r0, .inr (0, [.ref a0, .int (nI L0.length)])), (a0, .inl (cA, (100, .inl f0))), (r1, .inr (0, [.ref a1, .int (nI L1.length)])), (a1, .inl (cA, (100, .inl f1))), (r2, .inr (0, [.ref a2, .int n2])), (a2, .inl (cA, (100, .inl f2))), (r3, .inr (0, [.ref a3, .int n3])), (a3, .inl (cA, (100, .inl f3))), (y0, .inr (2, [.int tv, .int (nI rn), .ref q1, .ref q2, .int mn, .ref q3, .ref q4, .int ct, .int il, .ref q5])), (q1, .inl (cA, (2, .inl sf))), (q2, .inl (cA, (60, .inl lf))), (q3, .inl (cA, (320, .inl rf))), (q4, .inl (cA, (320, .inl nf))), (q5, .inl (cA, (6, .inl gf))), (o, .inl (cL, (1, .inr (.inl fo))))] := hD
    refine lv_istore (lv' := [(5, .int 1), (4, .int (nI i)), (3, .ref o), (2, .ref y0), (1, .ref x0), (0, .ref b)]) hx hb dL_law_837 hl (by decide) rfl (fun ls hl => ?_)
    refine lv_aload_n hx hb dL_law_839 rfl (lv_at hl 3 rfl) ?_
    refine lv_aload_n hx hb dL_law_840 rfl (lv_at hl 5 rfl) ?_
    refine lv_iload hx hb dL_law_841 (lv_at hl 1 rfl) ?_
    refine lv_iconst (v := 1) hx hb dL_law_843 (by decide) ?_
    refine lv_iadd hx hb dL_law_844 ?_
    rw [show (nI i) + 1 = nI (i + 1) from nI_add i 1]
    refine va_sld hx hb hX hbl hbA hS (vp_in_nI (by omega) (by omega)) dL_law_845 ?_
    rw [show (nI (i + 1)).toNatClampNeg = i + 1 from nI_clamp (by omega)]
    refine lv_aload_n hx hb dL_law_846 rfl (lv_at hl 5 rfl) ?_
    refine lv_iload hx hb dL_law_847 (lv_at hl 1 rfl) ?_
    refine lv_iconst (v := 2) hx hb dL_law_849 (by decide) ?_
    refine lv_iadd hx hb dL_law_850 ?_
    rw [show (nI i) + 2 = nI (i + 2) from nI_add i 2]
    refine va_sld hx hb hX hbl hbA hS (vp_in_nI (by omega) (by omega)) dL_law_851 ?_
    rw [show (nI (i + 2)).toNatClampNeg = i + 2 from nI_clamp (by omega)]
    refine g_MVi (As := [.int (xs (i + 1)), .int (xs (i + 2))]) (rest := []) ⟨hx, hb, hml, hown, hts⟩ (mt_X2_end_1 l dC dI cA H.size y0 q1 q2 q3 q4 q5 rn tv sf lf mn rf nf ct il gf (xs (i + 1)) (xs (i + 2)) hbad) (cwV 2 hts gL_law_X2_end rfl rfl rfl hdX2_end ⟨Nat.le_of_ble_eq_true rfl, Nat.le_of_ble_eq_true rfl⟩) hP hK hD hS hA [9, 10, 11, 12, 13, 14] (by decide) rfl (va_recv hK hP (ci := 2) (q0 := 9) rfl rfl) rfl hl.1 rfl (Nat.le_of_ble_eq_true rfl) dL_law_852 hc1 hs1 (fun u9 => [(x0, .inr (1, [.ref r0, .ref r1, .ref r2, .ref r3, .int (nI rn)])), (r0, .inr (0, [.ref a0, .int (nI L0.length)])), (a0, .inl (cA, (100, .inl f0))), (r1, .inr (0, [.ref a1, .int (nI L1.length)])), (a1, .inl (cA, (100, .inl f1))), (r2, .inr (0, [.ref a2, .int n2])), (a2, .inl (cA, (100, .inl f2))), (r3, .inr (0, [.ref a3, .int n3])), (a3, .inl (cA, (100, .inl f3))), (y0, .inr (2, [.int 1, .int (nI rn), .ref q1, .ref q2, .int mn, .ref q3, .ref q4, .int ct, .int il, .ref q5])), (q1, .inl (cA, (2, .inl sf))), (q2, .inl (cA, (60, .inl lf))), (q3, .inl (cA, (320, .inl rf))), (q4, .inl (cA, (320, .inl nf))), (q5, .inl (cA, (6, .inl gf))), (o, .inl (cL, (1, .inr (.inl fo))))]) (fun _ => rfl) (fun _ => rfl) (fun u H locs hw_2 hP hD hS => ?_)
    have hw_2 : True := hw_2
    have hP : va_P (dC, dI) vwCl [(x0, .inr (1, [.ref r0, .ref r1, .ref r2, .ref r3, .int (nI rn)])), (r0, .inr (0, [.ref a0, .int (nI L0.length)])), (a0, .inl (cA, (100, .inl f0))), (r1, .inr (0, [.ref a1, .int (nI L1.length)])), (a1, .inl (cA, (100, .inl f1))), (r2, .inr (0, [.ref a2, .int n2])), (a2, .inl (cA, (100, .inl f2))), (r3, .inr (0, [.ref a3, .int n3])), (a3, .inl (cA, (100, .inl f3))), (y0, .inr (2, [.int 1, .int (nI rn), .ref q1, .ref q2, .int mn, .ref q3, .ref q4, .int ct, .int il, .ref q5])), (q1, .inl (cA, (2, .inl sf))), (q2, .inl (cA, (60, .inl lf))), (q3, .inl (cA, (320, .inl rf))), (q4, .inl (cA, (320, .inl nf))), (q5, .inl (cA, (6, .inl gf))), (o, .inl (cL, (1, .inr (.inl fo))))] H := hP
    have hD : va_D A [(x0, .inr (1, [.ref r0, .ref r1, .ref r2, .ref r3, .int (nI rn)])), (r0, .inr (0, [.ref a0, .int (nI L0.length)])), (a0, .inl (cA, (100, .inl f0))), (r1, .inr (0, [.ref a1, .int (nI L1.length)])), (a1, .inl (cA, (100, .inl f1))), (r2, .inr (0, [.ref a2, .int n2])), (a2, .inl (cA, (100, .inl f2))), (r3, .inr (0, [.ref a3, .int n3])), (a3, .inl (cA, (100, .inl f3))), (y0, .inr (2, [.int 1, .int (nI rn), .ref q1, .ref q2, .int mn, .ref q3, .ref q4, .int ct, .int il, .ref q5])), (q1, .inl (cA, (2, .inl sf))), (q2, .inl (cA, (60, .inl lf))), (q3, .inl (cA, (320, .inl rf))), (q4, .inl (cA, (320, .inl nf))), (q5, .inl (cA, (6, .inl gf))), (o, .inl (cL, (1, .inr (.inl fo))))] := hD
    refine lv_istore (lv' := [(6, .int 0), (5, .int 1), (4, .int (nI i)), (3, .ref o), (2, .ref y0), (1, .ref x0), (0, .ref b)]) hx hb dL_law_855 hl (by decide) rfl (fun ls hl => ?_)
    refine lv_aload_n hx hb dL_law_857 rfl (lv_at hl 4 rfl) ?_
    refine g_RVi (As := []) (rest := []) ⟨hx, hb, hml, hown, hts⟩ (mt_X2_thrown l dC dI cA H.size y0 q1 q2 q3 q4 q5 rn 1 sf lf mn rf nf ct il gf) (cwV 0 hts gL_law_X2_thrown rfl rfl rfl hdX2_thrown ⟨Nat.le_of_ble_eq_true rfl, Nat.le_of_ble_eq_true rfl⟩) hP hK hD [9, 10, 11, 12, 13, 14] (by decide) rfl (va_recv hK hP (ci := 2) (q0 := 9) rfl rfl) rfl hl.1 rfl (Nat.le_of_ble_eq_true rfl) dL_law_858 hc1 hs1 ?_
    refine lv_iload hx hb dL_law_861 (lv_at hl 1 rfl) ?_
    refine lv_icmp_eq (tgt := 868) hx hb dL_law_863 (by decide) (fun c863 => ?_) (fun c863 => ?_)
    · refine lv_iload hx hb dL_law_868 (lv_at hl 1 rfl) ?_
      refine lv_if_ne (tgt := 885) hx hb dL_law_870 (by decide) (fun c870 => ?_) (fun c870 => ?_)
      · have c870 : ¬ 1 = 0 := g_neT 1 0 (by omega) (by omega) c870
        refine lv_goto (tgt := 1241) hx hb dL_law_885 (by decide) ?_
        exact kk rn L0 L1 _ _ _ _ _ ⟨f0, f1, n2, f2, n3, f3, 1, sf, lf, mn, rf, nf, ct, il, gf, fo, hP, hD, hS, hR0, hR1, hl0, hl1, hrn, hr6, hk0, hk1, hW⟩ (by omega) (by omega) (lv_sub hl [2, 3, 4, 5, 6] rfl)
      · exact absurd c870 (by decide)
    · exact absurd (by decide) c863
  · rcases pk_ix (xs (i + 2)) (n := rn) (by omega) with hbad | hbad | ⟨r, hrr, h2⟩
    · refine lv_aload_n hx hb dL_law_820 rfl (lv_at hl 3 rfl) ?_
      refine lv_aload_n hx hb dL_law_821 rfl (lv_at hl 4 rfl) ?_
      refine lv_iload hx hb dL_law_822 (lv_at hl 0 rfl) ?_
      refine lv_iconst (v := 1) hx hb dL_law_824 (by decide) ?_
      refine lv_iadd hx hb dL_law_825 ?_
      rw [show (nI i) + 1 = nI (i + 1) from nI_add i 1]
      refine va_sld hx hb hX hbl hbA hS (vp_in_nI (by omega) (by omega)) dL_law_826 ?_
      rw [show (nI (i + 1)).toNatClampNeg = i + 1 from nI_clamp (by omega)]
      rw [h1]
      refine lv_aload_n hx hb dL_law_827 rfl (lv_at hl 4 rfl) ?_
      refine lv_iload hx hb dL_law_828 (lv_at hl 0 rfl) ?_
      refine lv_iconst (v := 2) hx hb dL_law_830 (by decide) ?_
      refine lv_iadd hx hb dL_law_831 ?_
      rw [show (nI i) + 2 = nI (i + 2) from nI_add i 2]
      refine va_sld hx hb hX hbl hbA hS (vp_in_nI (by omega) (by omega)) dL_law_832 ?_
      rw [show (nI (i + 2)).toNatClampNeg = i + 2 from nI_clamp (by omega)]
      refine lv_aload_n hx hb dL_law_833 rfl (lv_at hl 1 rfl) ?_
      refine g_LS (As := [.ref x0, .int (nI 0), .int (xs (i + 2)), .ref o]) (rest := []) ⟨hx, hb, hml, hown, hts⟩ (mt_L_end_1b_0 l htr dC dI cA cL H.size x0 r0 r1 r2 r3 rn (xs (i + 2)) o fo (Or.inl hbad)) (vx_cwSW 4 hts gL_law_L_end rfl rfl rfl hdL_end ⟨Nat.le_of_ble_eq_true rfl, Nat.le_of_ble_eq_true rfl⟩) hP hKl hD hS hA hZ [0, 15] (by decide) rfl rfl hl.1 rfl (Nat.le_of_ble_eq_true rfl) dL_law_834 hc1 hs1 (fun u9 => [(x0, .inr (1, [.ref r0, .ref r1, .ref r2, .ref r3, .int (nI rn)])), (r0, .inr (0, [.ref a0, .int (nI L0.length)])), (a0, .inl (cA, (100, .inl f0))), (r1, .inr (0, [.ref a1, .int (nI L1.length)])), (a1, .inl (cA, (100, .inl f1))), (r2, .inr (0, [.ref a2, .int n2])), (a2, .inl (cA, (100, .inl f2))), (r3, .inr (0, [.ref a3, .int n3])), (a3, .inl (cA, (100, .inl f3))), (y0, .inr (2, [.int tv, .int (nI rn), .ref q1, .ref q2, .int mn, .ref q3, .ref q4, .int ct, .int il, .ref q5])), (q1, .inl (cA, (2, .inl sf))), (q2, .inl (cA, (60, .inl lf))), (q3, .inl (cA, (320, .inl rf))), (q4, .inl (cA, (320, .inl nf))), (q5, .inl (cA, (6, .inl gf))), (o, .inl (cL, (1, .inr (.inl fo))))]) (fun _ => rfl) (fun _ => rfl) (fun u H locs hw_1 hP hD hS => ?_)
      have hP : va_P (dC, dI) vwCl [(x0, .inr (1, [.ref r0, .ref r1, .ref r2, .ref r3, .int (nI rn)])), (r0, .inr (0, [.ref a0, .int (nI L0.length)])), (a0, .inl (cA, (100, .inl f0))), (r1, .inr (0, [.ref a1, .int (nI L1.length)])), (a1, .inl (cA, (100, .inl f1))), (r2, .inr (0, [.ref a2, .int n2])), (a2, .inl (cA, (100, .inl f2))), (r3, .inr (0, [.ref a3, .int n3])), (a3, .inl (cA, (100, .inl f3))), (y0, .inr (2, [.int tv, .int (nI rn), .ref q1, .ref q2, .int mn, .ref q3, .ref q4, .int ct, .int il, .ref q5])), (q1, .inl (cA, (2, .inl sf))), (q2, .inl (cA, (60, .inl lf))), (q3, .inl (cA, (320, .inl rf))), (q4, .inl (cA, (320, .inl nf))), (q5, .inl (cA, (6, .inl gf))), (o, .inl (cL, (1, .inr (.inl fo))))] H := hP
      have hD : va_D A [(x0, .inr (1, [.ref r0, .ref r1, .ref r2, .ref r3, .int (nI rn)])), (r0, .inr (0, [.ref a0, .int (nI L0.length)])), (a0, .inl (cA, (100, .inl f0))), (r1, .inr (0, [.ref a1, .int (nI L1.length)])), (a1, .inl (cA, (100, .inl f1))), (r2, .inr (0, [.ref a2, .int n2])), (a2, .inl (cA, (100, .inl f2))), (r3, .inr (0, [.ref a3, .int n3])), (a3, .inl (cA, (100, .inl f3))), (y0, .inr (2, [.int tv, .int (nI rn), .ref q1, .ref q2, .int mn, .ref q3, .ref q4, .int ct, .int il, .ref q5])), (q1, .inl (cA, (2, .inl sf))), (q2, .inl (cA, (60, .inl lf))), (q3, .inl (cA, (320, .inl rf))), (q4, .inl (cA, (320, .inl nf))), (q5, .inl (cA, (6, .inl gf))), (o, .inl (cL, (1, .inr (.inl fo))))] := hD
      refine lv_istore (lv' := [(5, .int 1), (4, .int (nI i)), (3, .ref o), (2, .ref y0), (1, .ref x0), (0, .ref b)]) hx hb dL_law_837 hl (by decide) rfl (fun ls hl => ?_)
      refine lv_aload_n hx hb dL_law_839 rfl (lv_at hl 3 rfl) ?_
      refine lv_aload_n hx hb dL_law_840 rfl (lv_at hl 5 rfl) ?_
      refine lv_iload hx hb dL_law_841 (lv_at hl 1 rfl) ?_
      refine lv_iconst (v := 1) hx hb dL_law_843 (by decide) ?_
      refine lv_iadd hx hb dL_law_844 ?_
      rw [show (nI i) + 1 = nI (i + 1) from nI_add i 1]
      refine va_sld hx hb hX hbl hbA hS (vp_in_nI (by omega) (by omega)) dL_law_845 ?_
      rw [show (nI (i + 1)).toNatClampNeg = i + 1 from nI_clamp (by omega)]
      rw [h1]
      refine lv_aload_n hx hb dL_law_846 rfl (lv_at hl 5 rfl) ?_
      refine lv_iload hx hb dL_law_847 (lv_at hl 1 rfl) ?_
      refine lv_iconst (v := 2) hx hb dL_law_849 (by decide) ?_
      refine lv_iadd hx hb dL_law_850 ?_
      rw [show (nI i) + 2 = nI (i + 2) from nI_add i 2]
      refine va_sld hx hb hX hbl hbA hS (vp_in_nI (by omega) (by omega)) dL_law_851 ?_
      rw [show (nI (i + 2)).toNatClampNeg = i + 2 from nI_clamp (by omega)]
      refine g_MVi (As := [.int (nI 0), .int (xs (i + 2))]) (rest := []) ⟨hx, hb, hml, hown, hts⟩ (mt_X2_end_1b l dC dI cA H.size y0 q1 q2 q3 q4 q5 rn tv sf lf mn rf nf ct il gf 0 (xs (i + 2)) (by omega) hr6 (Or.inl hbad)) (cwV 2 hts gL_law_X2_end rfl rfl rfl hdX2_end ⟨Nat.le_of_ble_eq_true rfl, Nat.le_of_ble_eq_true rfl⟩) hP hK hD hS hA [9, 10, 11, 12, 13, 14] (by decide) rfl (va_recv hK hP (ci := 2) (q0 := 9) rfl rfl) rfl hl.1 rfl (Nat.le_of_ble_eq_true rfl) dL_law_852 hc1 hs1 (fun u9 => [(x0, .inr (1, [.ref r0, .ref r1, .ref r2, .ref r3, .int (nI rn)])), (r0, .inr (0, [.ref a0, .int (nI L0.length)])), (a0, .inl (cA, (100, .inl f0))), (r1, .inr (0, [.ref a1, .int (nI L1.length)])), (a1, .inl (cA, (100, .inl f1))), (r2, .inr (0, [.ref a2, .int n2])), (a2, .inl (cA, (100, .inl f2))), (r3, .inr (0, [.ref a3, .int n3])), (a3, .inl (cA, (100, .inl f3))), (y0, .inr (2, [.int 1, .int (nI rn), .ref q1, .ref q2, .int mn, .ref q3, .ref q4, .int ct, .int il, .ref q5])), (q1, .inl (cA, (2, .inl sf))), (q2, .inl (cA, (60, .inl lf))), (q3, .inl (cA, (320, .inl rf))), (q4, .inl (cA, (320, .inl nf))), (q5, .inl (cA, (6, .inl gf))), (o, .inl (cL, (1, .inr (.inl fo))))]) (fun _ => rfl) (fun _ => rfl) (fun u H locs hw_2 hP hD hS => ?_)
      have hw_2 : True := hw_2
      have hP : va_P (dC, dI) vwCl [(x0, .inr (1, [.ref r0, .ref r1, .ref r2, .ref r3, .int (nI rn)])), (r0, .inr (0, [.ref a0, .int (nI L0.length)])), (a0, .inl (cA, (100, .inl f0))), (r1, .inr (0, [.ref a1, .int (nI L1.length)])), (a1, .inl (cA, (100, .inl f1))), (r2, .inr (0, [.ref a2, .int n2])), (a2, .inl (cA, (100, .inl f2))), (r3, .inr (0, [.ref a3, .int n3])), (a3, .inl (cA, (100, .inl f3))), (y0, .inr (2, [.int 1, .int (nI rn), .ref q1, .ref q2, .int mn, .ref q3, .ref q4, .int ct, .int il, .ref q5])), (q1, .inl (cA, (2, .inl sf))), (q2, .inl (cA, (60, .inl lf))), (q3, .inl (cA, (320, .inl rf))), (q4, .inl (cA, (320, .inl nf))), (q5, .inl (cA, (6, .inl gf))), (o, .inl (cL, (1, .inr (.inl fo))))] H := hP
      have hD : va_D A [(x0, .inr (1, [.ref r0, .ref r1, .ref r2, .ref r3, .int (nI rn)])), (r0, .inr (0, [.ref a0, .int (nI L0.length)])), (a0, .inl (cA, (100, .inl f0))), (r1, .inr (0, [.ref a1, .int (nI L1.length)])), (a1, .inl (cA, (100, .inl f1))), (r2, .inr (0, [.ref a2, .int n2])), (a2, .inl (cA, (100, .inl f2))), (r3, .inr (0, [.ref a3, .int n3])), (a3, .inl (cA, (100, .inl f3))), (y0, .inr (2, [.int 1, .int (nI rn), .ref q1, .ref q2, .int mn, .ref q3, .ref q4, .int ct, .int il, .ref q5])), (q1, .inl (cA, (2, .inl sf))), (q2, .inl (cA, (60, .inl lf))), (q3, .inl (cA, (320, .inl rf))), (q4, .inl (cA, (320, .inl nf))), (q5, .inl (cA, (6, .inl gf))), (o, .inl (cL, (1, .inr (.inl fo))))] := hD
      refine lv_istore (lv' := [(6, .int 0), (5, .int 1), (4, .int (nI i)), (3, .ref o), (2, .ref y0), (1, .ref x0), (0, .ref b)]) hx hb dL_law_855 hl (by decide) rfl (fun ls hl => ?_)
      refine lv_aload_n hx hb dL_law_857 rfl (lv_at hl 4 rfl) ?_
      refine g_RVi (As := []) (rest := []) ⟨hx, hb, hml, hown, hts⟩ (mt_X2_thrown l dC dI cA H.size y0 q1 q2 q3 q4 q5 rn 1 sf lf mn rf nf ct il gf) (cwV 0 hts gL_law_X2_thrown rfl rfl rfl hdX2_thrown ⟨Nat.le_of_ble_eq_true rfl, Nat.le_of_ble_eq_true rfl⟩) hP hK hD [9, 10, 11, 12, 13, 14] (by decide) rfl (va_recv hK hP (ci := 2) (q0 := 9) rfl rfl) rfl hl.1 rfl (Nat.le_of_ble_eq_true rfl) dL_law_858 hc1 hs1 ?_
      refine lv_iload hx hb dL_law_861 (lv_at hl 1 rfl) ?_
      refine lv_icmp_eq (tgt := 868) hx hb dL_law_863 (by decide) (fun c863 => ?_) (fun c863 => ?_)
      · refine lv_iload hx hb dL_law_868 (lv_at hl 1 rfl) ?_
        refine lv_if_ne (tgt := 885) hx hb dL_law_870 (by decide) (fun c870 => ?_) (fun c870 => ?_)
        · have c870 : ¬ 1 = 0 := g_neT 1 0 (by omega) (by omega) c870
          refine lv_goto (tgt := 1241) hx hb dL_law_885 (by decide) ?_
          exact kk rn L0 L1 _ _ _ _ _ ⟨f0, f1, n2, f2, n3, f3, 1, sf, lf, mn, rf, nf, ct, il, gf, fo, hP, hD, hS, hR0, hR1, hl0, hl1, hrn, hr6, hk0, hk1, hW⟩ (by omega) (by omega) (lv_sub hl [2, 3, 4, 5, 6] rfl)
        · exact absurd c870 (by decide)
      · exact absurd (by decide) c863
    · refine lv_aload_n hx hb dL_law_820 rfl (lv_at hl 3 rfl) ?_
      refine lv_aload_n hx hb dL_law_821 rfl (lv_at hl 4 rfl) ?_
      refine lv_iload hx hb dL_law_822 (lv_at hl 0 rfl) ?_
      refine lv_iconst (v := 1) hx hb dL_law_824 (by decide) ?_
      refine lv_iadd hx hb dL_law_825 ?_
      rw [show (nI i) + 1 = nI (i + 1) from nI_add i 1]
      refine va_sld hx hb hX hbl hbA hS (vp_in_nI (by omega) (by omega)) dL_law_826 ?_
      rw [show (nI (i + 1)).toNatClampNeg = i + 1 from nI_clamp (by omega)]
      rw [h1]
      refine lv_aload_n hx hb dL_law_827 rfl (lv_at hl 4 rfl) ?_
      refine lv_iload hx hb dL_law_828 (lv_at hl 0 rfl) ?_
      refine lv_iconst (v := 2) hx hb dL_law_830 (by decide) ?_
      refine lv_iadd hx hb dL_law_831 ?_
      rw [show (nI i) + 2 = nI (i + 2) from nI_add i 2]
      refine va_sld hx hb hX hbl hbA hS (vp_in_nI (by omega) (by omega)) dL_law_832 ?_
      rw [show (nI (i + 2)).toNatClampNeg = i + 2 from nI_clamp (by omega)]
      refine lv_aload_n hx hb dL_law_833 rfl (lv_at hl 1 rfl) ?_
      refine g_LS (As := [.ref x0, .int (nI 0), .int (xs (i + 2)), .ref o]) (rest := []) ⟨hx, hb, hml, hown, hts⟩ (mt_L_end_1b_0 l htr dC dI cA cL H.size x0 r0 r1 r2 r3 rn (xs (i + 2)) o fo (Or.inr hbad)) (vx_cwSW 4 hts gL_law_L_end rfl rfl rfl hdL_end ⟨Nat.le_of_ble_eq_true rfl, Nat.le_of_ble_eq_true rfl⟩) hP hKl hD hS hA hZ [0, 15] (by decide) rfl rfl hl.1 rfl (Nat.le_of_ble_eq_true rfl) dL_law_834 hc1 hs1 (fun u9 => [(x0, .inr (1, [.ref r0, .ref r1, .ref r2, .ref r3, .int (nI rn)])), (r0, .inr (0, [.ref a0, .int (nI L0.length)])), (a0, .inl (cA, (100, .inl f0))), (r1, .inr (0, [.ref a1, .int (nI L1.length)])), (a1, .inl (cA, (100, .inl f1))), (r2, .inr (0, [.ref a2, .int n2])), (a2, .inl (cA, (100, .inl f2))), (r3, .inr (0, [.ref a3, .int n3])), (a3, .inl (cA, (100, .inl f3))), (y0, .inr (2, [.int tv, .int (nI rn), .ref q1, .ref q2, .int mn, .ref q3, .ref q4, .int ct, .int il, .ref q5])), (q1, .inl (cA, (2, .inl sf))), (q2, .inl (cA, (60, .inl lf))), (q3, .inl (cA, (320, .inl rf))), (q4, .inl (cA, (320, .inl nf))), (q5, .inl (cA, (6, .inl gf))), (o, .inl (cL, (1, .inr (.inl fo))))]) (fun _ => rfl) (fun _ => rfl) (fun u H locs hw_1 hP hD hS => ?_)
      have hP : va_P (dC, dI) vwCl [(x0, .inr (1, [.ref r0, .ref r1, .ref r2, .ref r3, .int (nI rn)])), (r0, .inr (0, [.ref a0, .int (nI L0.length)])), (a0, .inl (cA, (100, .inl f0))), (r1, .inr (0, [.ref a1, .int (nI L1.length)])), (a1, .inl (cA, (100, .inl f1))), (r2, .inr (0, [.ref a2, .int n2])), (a2, .inl (cA, (100, .inl f2))), (r3, .inr (0, [.ref a3, .int n3])), (a3, .inl (cA, (100, .inl f3))), (y0, .inr (2, [.int tv, .int (nI rn), .ref q1, .ref q2, .int mn, .ref q3, .ref q4, .int ct, .int il, .ref q5])), (q1, .inl (cA, (2, .inl sf))), (q2, .inl (cA, (60, .inl lf))), (q3, .inl (cA, (320, .inl rf))), (q4, .inl (cA, (320, .inl nf))), (q5, .inl (cA, (6, .inl gf))), (o, .inl (cL, (1, .inr (.inl fo))))] H := hP
      have hD : va_D A [(x0, .inr (1, [.ref r0, .ref r1, .ref r2, .ref r3, .int (nI rn)])), (r0, .inr (0, [.ref a0, .int (nI L0.length)])), (a0, .inl (cA, (100, .inl f0))), (r1, .inr (0, [.ref a1, .int (nI L1.length)])), (a1, .inl (cA, (100, .inl f1))), (r2, .inr (0, [.ref a2, .int n2])), (a2, .inl (cA, (100, .inl f2))), (r3, .inr (0, [.ref a3, .int n3])), (a3, .inl (cA, (100, .inl f3))), (y0, .inr (2, [.int tv, .int (nI rn), .ref q1, .ref q2, .int mn, .ref q3, .ref q4, .int ct, .int il, .ref q5])), (q1, .inl (cA, (2, .inl sf))), (q2, .inl (cA, (60, .inl lf))), (q3, .inl (cA, (320, .inl rf))), (q4, .inl (cA, (320, .inl nf))), (q5, .inl (cA, (6, .inl gf))), (o, .inl (cL, (1, .inr (.inl fo))))] := hD
      refine lv_istore (lv' := [(5, .int 1), (4, .int (nI i)), (3, .ref o), (2, .ref y0), (1, .ref x0), (0, .ref b)]) hx hb dL_law_837 hl (by decide) rfl (fun ls hl => ?_)
      refine lv_aload_n hx hb dL_law_839 rfl (lv_at hl 3 rfl) ?_
      refine lv_aload_n hx hb dL_law_840 rfl (lv_at hl 5 rfl) ?_
      refine lv_iload hx hb dL_law_841 (lv_at hl 1 rfl) ?_
      refine lv_iconst (v := 1) hx hb dL_law_843 (by decide) ?_
      refine lv_iadd hx hb dL_law_844 ?_
      rw [show (nI i) + 1 = nI (i + 1) from nI_add i 1]
      refine va_sld hx hb hX hbl hbA hS (vp_in_nI (by omega) (by omega)) dL_law_845 ?_
      rw [show (nI (i + 1)).toNatClampNeg = i + 1 from nI_clamp (by omega)]
      rw [h1]
      refine lv_aload_n hx hb dL_law_846 rfl (lv_at hl 5 rfl) ?_
      refine lv_iload hx hb dL_law_847 (lv_at hl 1 rfl) ?_
      refine lv_iconst (v := 2) hx hb dL_law_849 (by decide) ?_
      refine lv_iadd hx hb dL_law_850 ?_
      rw [show (nI i) + 2 = nI (i + 2) from nI_add i 2]
      refine va_sld hx hb hX hbl hbA hS (vp_in_nI (by omega) (by omega)) dL_law_851 ?_
      rw [show (nI (i + 2)).toNatClampNeg = i + 2 from nI_clamp (by omega)]
      refine g_MVi (As := [.int (nI 0), .int (xs (i + 2))]) (rest := []) ⟨hx, hb, hml, hown, hts⟩ (mt_X2_end_1b l dC dI cA H.size y0 q1 q2 q3 q4 q5 rn tv sf lf mn rf nf ct il gf 0 (xs (i + 2)) (by omega) hr6 (Or.inr hbad)) (cwV 2 hts gL_law_X2_end rfl rfl rfl hdX2_end ⟨Nat.le_of_ble_eq_true rfl, Nat.le_of_ble_eq_true rfl⟩) hP hK hD hS hA [9, 10, 11, 12, 13, 14] (by decide) rfl (va_recv hK hP (ci := 2) (q0 := 9) rfl rfl) rfl hl.1 rfl (Nat.le_of_ble_eq_true rfl) dL_law_852 hc1 hs1 (fun u9 => [(x0, .inr (1, [.ref r0, .ref r1, .ref r2, .ref r3, .int (nI rn)])), (r0, .inr (0, [.ref a0, .int (nI L0.length)])), (a0, .inl (cA, (100, .inl f0))), (r1, .inr (0, [.ref a1, .int (nI L1.length)])), (a1, .inl (cA, (100, .inl f1))), (r2, .inr (0, [.ref a2, .int n2])), (a2, .inl (cA, (100, .inl f2))), (r3, .inr (0, [.ref a3, .int n3])), (a3, .inl (cA, (100, .inl f3))), (y0, .inr (2, [.int 1, .int (nI rn), .ref q1, .ref q2, .int mn, .ref q3, .ref q4, .int ct, .int il, .ref q5])), (q1, .inl (cA, (2, .inl sf))), (q2, .inl (cA, (60, .inl lf))), (q3, .inl (cA, (320, .inl rf))), (q4, .inl (cA, (320, .inl nf))), (q5, .inl (cA, (6, .inl gf))), (o, .inl (cL, (1, .inr (.inl fo))))]) (fun _ => rfl) (fun _ => rfl) (fun u H locs hw_2 hP hD hS => ?_)
      have hw_2 : True := hw_2
      have hP : va_P (dC, dI) vwCl [(x0, .inr (1, [.ref r0, .ref r1, .ref r2, .ref r3, .int (nI rn)])), (r0, .inr (0, [.ref a0, .int (nI L0.length)])), (a0, .inl (cA, (100, .inl f0))), (r1, .inr (0, [.ref a1, .int (nI L1.length)])), (a1, .inl (cA, (100, .inl f1))), (r2, .inr (0, [.ref a2, .int n2])), (a2, .inl (cA, (100, .inl f2))), (r3, .inr (0, [.ref a3, .int n3])), (a3, .inl (cA, (100, .inl f3))), (y0, .inr (2, [.int 1, .int (nI rn), .ref q1, .ref q2, .int mn, .ref q3, .ref q4, .int ct, .int il, .ref q5])), (q1, .inl (cA, (2, .inl sf))), (q2, .inl (cA, (60, .inl lf))), (q3, .inl (cA, (320, .inl rf))), (q4, .inl (cA, (320, .inl nf))), (q5, .inl (cA, (6, .inl gf))), (o, .inl (cL, (1, .inr (.inl fo))))] H := hP
      have hD : va_D A [(x0, .inr (1, [.ref r0, .ref r1, .ref r2, .ref r3, .int (nI rn)])), (r0, .inr (0, [.ref a0, .int (nI L0.length)])), (a0, .inl (cA, (100, .inl f0))), (r1, .inr (0, [.ref a1, .int (nI L1.length)])), (a1, .inl (cA, (100, .inl f1))), (r2, .inr (0, [.ref a2, .int n2])), (a2, .inl (cA, (100, .inl f2))), (r3, .inr (0, [.ref a3, .int n3])), (a3, .inl (cA, (100, .inl f3))), (y0, .inr (2, [.int 1, .int (nI rn), .ref q1, .ref q2, .int mn, .ref q3, .ref q4, .int ct, .int il, .ref q5])), (q1, .inl (cA, (2, .inl sf))), (q2, .inl (cA, (60, .inl lf))), (q3, .inl (cA, (320, .inl rf))), (q4, .inl (cA, (320, .inl nf))), (q5, .inl (cA, (6, .inl gf))), (o, .inl (cL, (1, .inr (.inl fo))))] := hD
      refine lv_istore (lv' := [(6, .int 0), (5, .int 1), (4, .int (nI i)), (3, .ref o), (2, .ref y0), (1, .ref x0), (0, .ref b)]) hx hb dL_law_855 hl (by decide) rfl (fun ls hl => ?_)
      refine lv_aload_n hx hb dL_law_857 rfl (lv_at hl 4 rfl) ?_
      refine g_RVi (As := []) (rest := []) ⟨hx, hb, hml, hown, hts⟩ (mt_X2_thrown l dC dI cA H.size y0 q1 q2 q3 q4 q5 rn 1 sf lf mn rf nf ct il gf) (cwV 0 hts gL_law_X2_thrown rfl rfl rfl hdX2_thrown ⟨Nat.le_of_ble_eq_true rfl, Nat.le_of_ble_eq_true rfl⟩) hP hK hD [9, 10, 11, 12, 13, 14] (by decide) rfl (va_recv hK hP (ci := 2) (q0 := 9) rfl rfl) rfl hl.1 rfl (Nat.le_of_ble_eq_true rfl) dL_law_858 hc1 hs1 ?_
      refine lv_iload hx hb dL_law_861 (lv_at hl 1 rfl) ?_
      refine lv_icmp_eq (tgt := 868) hx hb dL_law_863 (by decide) (fun c863 => ?_) (fun c863 => ?_)
      · refine lv_iload hx hb dL_law_868 (lv_at hl 1 rfl) ?_
        refine lv_if_ne (tgt := 885) hx hb dL_law_870 (by decide) (fun c870 => ?_) (fun c870 => ?_)
        · have c870 : ¬ 1 = 0 := g_neT 1 0 (by omega) (by omega) c870
          refine lv_goto (tgt := 1241) hx hb dL_law_885 (by decide) ?_
          exact kk rn L0 L1 _ _ _ _ _ ⟨f0, f1, n2, f2, n3, f3, 1, sf, lf, mn, rf, nf, ct, il, gf, fo, hP, hD, hS, hR0, hR1, hl0, hl1, hrn, hr6, hk0, hk1, hW⟩ (by omega) (by omega) (lv_sub hl [2, 3, 4, 5, 6] rfl)
        · exact absurd c870 (by decide)
      · exact absurd (by decide) c863
    · refine lv_aload_n hx hb dL_law_820 rfl (lv_at hl 3 rfl) ?_
      refine lv_aload_n hx hb dL_law_821 rfl (lv_at hl 4 rfl) ?_
      refine lv_iload hx hb dL_law_822 (lv_at hl 0 rfl) ?_
      refine lv_iconst (v := 1) hx hb dL_law_824 (by decide) ?_
      refine lv_iadd hx hb dL_law_825 ?_
      rw [show (nI i) + 1 = nI (i + 1) from nI_add i 1]
      refine va_sld hx hb hX hbl hbA hS (vp_in_nI (by omega) (by omega)) dL_law_826 ?_
      rw [show (nI (i + 1)).toNatClampNeg = i + 1 from nI_clamp (by omega)]
      rw [h1]
      refine lv_aload_n hx hb dL_law_827 rfl (lv_at hl 4 rfl) ?_
      refine lv_iload hx hb dL_law_828 (lv_at hl 0 rfl) ?_
      refine lv_iconst (v := 2) hx hb dL_law_830 (by decide) ?_
      refine lv_iadd hx hb dL_law_831 ?_
      rw [show (nI i) + 2 = nI (i + 2) from nI_add i 2]
      refine va_sld hx hb hX hbl hbA hS (vp_in_nI (by omega) (by omega)) dL_law_832 ?_
      rw [show (nI (i + 2)).toNatClampNeg = i + 2 from nI_clamp (by omega)]
      rw [h2]
      refine lv_aload_n hx hb dL_law_833 rfl (lv_at hl 1 rfl) ?_
      refine g_LS (As := [.ref x0, .int (nI 0), .int (nI r), .ref o]) (rest := []) ⟨hx, hb, hml, hown, hts⟩ (mt_L_end0 l htr dC dI cA cL H.size x0 r0 r1 r2 r3 rn a0 L0 f0 (nI r) o fo hR0 (nI_pos (by omega)) (nI_lt hrr (by omega))) (vx_cwSW 4 hts gL_law_L_end rfl rfl rfl hdL_end ⟨Nat.le_of_ble_eq_true rfl, Nat.le_of_ble_eq_true rfl⟩) hP hKl hD hS hA hZ [0, 1, 2, 15] (by decide) rfl rfl hl.1 rfl (Nat.le_of_ble_eq_true rfl) dL_law_834 hc0 hs0 (fun u9 => [(x0, .inr (1, [.ref r0, .ref r1, .ref r2, .ref r3, .int (nI rn)])), (r0, .inr (0, [.ref a0, .int (nI L0.length)])), (a0, .inl (cA, (100, .inl f0))), (r1, .inr (0, [.ref a1, .int (nI L1.length)])), (a1, .inl (cA, (100, .inl f1))), (r2, .inr (0, [.ref a2, .int n2])), (a2, .inl (cA, (100, .inl f2))), (r3, .inr (0, [.ref a3, .int n3])), (a3, .inl (cA, (100, .inl f3))), (y0, .inr (2, [.int tv, .int (nI rn), .ref q1, .ref q2, .int mn, .ref q3, .ref q4, .int ct, .int il, .ref q5])), (q1, .inl (cA, (2, .inl sf))), (q2, .inl (cA, (60, .inl lf))), (q3, .inl (cA, (320, .inl rf))), (q4, .inl (cA, (320, .inl nf))), (q5, .inl (cA, (6, .inl gf))), (o, .inl (cL, (1, .inr (.inl (vp_updL fo 0 (plE L0 (nI r) L0.length).toInt64)))))]) (fun _ => rfl) (fun _ => rfl) (fun u H locs hw_1 hP hD hS => ?_)
      have hP : va_P (dC, dI) vwCl [(x0, .inr (1, [.ref r0, .ref r1, .ref r2, .ref r3, .int (nI rn)])), (r0, .inr (0, [.ref a0, .int (nI L0.length)])), (a0, .inl (cA, (100, .inl f0))), (r1, .inr (0, [.ref a1, .int (nI L1.length)])), (a1, .inl (cA, (100, .inl f1))), (r2, .inr (0, [.ref a2, .int n2])), (a2, .inl (cA, (100, .inl f2))), (r3, .inr (0, [.ref a3, .int n3])), (a3, .inl (cA, (100, .inl f3))), (y0, .inr (2, [.int tv, .int (nI rn), .ref q1, .ref q2, .int mn, .ref q3, .ref q4, .int ct, .int il, .ref q5])), (q1, .inl (cA, (2, .inl sf))), (q2, .inl (cA, (60, .inl lf))), (q3, .inl (cA, (320, .inl rf))), (q4, .inl (cA, (320, .inl nf))), (q5, .inl (cA, (6, .inl gf))), (o, .inl (cL, (1, .inr (.inl (vp_updL fo 0 (plE L0 (nI r) L0.length).toInt64)))))] H := hP
      have hD : va_D A [(x0, .inr (1, [.ref r0, .ref r1, .ref r2, .ref r3, .int (nI rn)])), (r0, .inr (0, [.ref a0, .int (nI L0.length)])), (a0, .inl (cA, (100, .inl f0))), (r1, .inr (0, [.ref a1, .int (nI L1.length)])), (a1, .inl (cA, (100, .inl f1))), (r2, .inr (0, [.ref a2, .int n2])), (a2, .inl (cA, (100, .inl f2))), (r3, .inr (0, [.ref a3, .int n3])), (a3, .inl (cA, (100, .inl f3))), (y0, .inr (2, [.int tv, .int (nI rn), .ref q1, .ref q2, .int mn, .ref q3, .ref q4, .int ct, .int il, .ref q5])), (q1, .inl (cA, (2, .inl sf))), (q2, .inl (cA, (60, .inl lf))), (q3, .inl (cA, (320, .inl rf))), (q4, .inl (cA, (320, .inl nf))), (q5, .inl (cA, (6, .inl gf))), (o, .inl (cL, (1, .inr (.inl (vp_updL fo 0 (plE L0 (nI r) L0.length).toInt64)))))] := hD
      refine lv_istore (lv' := [(5, .int 0), (4, .int (nI i)), (3, .ref o), (2, .ref y0), (1, .ref x0), (0, .ref b)]) hx hb dL_law_837 hl (by decide) rfl (fun ls hl => ?_)
      refine lv_aload_n hx hb dL_law_839 rfl (lv_at hl 3 rfl) ?_
      refine lv_aload_n hx hb dL_law_840 rfl (lv_at hl 5 rfl) ?_
      refine lv_iload hx hb dL_law_841 (lv_at hl 1 rfl) ?_
      refine lv_iconst (v := 1) hx hb dL_law_843 (by decide) ?_
      refine lv_iadd hx hb dL_law_844 ?_
      rw [show (nI i) + 1 = nI (i + 1) from nI_add i 1]
      refine va_sld hx hb hX hbl hbA hS (vp_in_nI (by omega) (by omega)) dL_law_845 ?_
      rw [show (nI (i + 1)).toNatClampNeg = i + 1 from nI_clamp (by omega)]
      rw [h1]
      refine lv_aload_n hx hb dL_law_846 rfl (lv_at hl 5 rfl) ?_
      refine lv_iload hx hb dL_law_847 (lv_at hl 1 rfl) ?_
      refine lv_iconst (v := 2) hx hb dL_law_849 (by decide) ?_
      refine lv_iadd hx hb dL_law_850 ?_
      rw [show (nI i) + 2 = nI (i + 2) from nI_add i 2]
      refine va_sld hx hb hX hbl hbA hS (vp_in_nI (by omega) (by omega)) dL_law_851 ?_
      rw [show (nI (i + 2)).toNatClampNeg = i + 2 from nI_clamp (by omega)]
      rw [h2]
      refine g_MVi (As := [.int (nI 0), .int (nI r)]) (rest := []) ⟨hx, hb, hml, hown, hts⟩ (mt_X2_end l dC dI cA H.size y0 q1 q2 q3 q4 q5 rn tv sf lf mn rf nf ct il gf (V2 L0 L1) 0 r hW hrn hr6 hok (by omega) hrr) (cwV 2 hts gL_law_X2_end rfl rfl rfl hdX2_end ⟨Nat.le_of_ble_eq_true rfl, Nat.le_of_ble_eq_true rfl⟩) hP hK hD hS hA [9, 10, 11, 12, 13, 14] (by decide) rfl (va_recv hK hP (ci := 2) (q0 := 9) rfl rfl) rfl hl.1 rfl (Nat.le_of_ble_eq_true rfl) dL_law_852 hc0 hs0 (fun u9 => [(x0, .inr (1, [.ref r0, .ref r1, .ref r2, .ref r3, .int (nI rn)])), (r0, .inr (0, [.ref a0, .int (nI L0.length)])), (a0, .inl (cA, (100, .inl f0))), (r1, .inr (0, [.ref a1, .int (nI L1.length)])), (a1, .inl (cA, (100, .inl f1))), (r2, .inr (0, [.ref a2, .int n2])), (a2, .inl (cA, (100, .inl f2))), (r3, .inr (0, [.ref a3, .int n3])), (a3, .inl (cA, (100, .inl f3))), (y0, .inr (2, [.int 0, .int (nI rn), .ref q1, .ref q2, .int mn, .ref q3, .ref q4, .int ct, .int il, .ref q5])), (q1, .inl (cA, (2, .inl sf))), (q2, .inl (cA, (60, .inl lf))), (q3, .inl (cA, (320, .inl rf))), (q4, .inl (cA, (320, .inl nf))), (q5, .inl (cA, (6, .inl u9))), (o, .inl (cL, (1, .inr (.inl (vp_updL fo 0 (plE L0 (nI r) L0.length).toInt64)))))]) (fun _ => rfl) (fun _ => rfl) (fun u H locs hw_3 hP hD hS => ?_)
      obtain ⟨g9_2, rfl⟩ : ∃ z, z = u := ⟨_, rfl⟩
      have hw_3 : True := hw_3
      have hP : va_P (dC, dI) vwCl [(x0, .inr (1, [.ref r0, .ref r1, .ref r2, .ref r3, .int (nI rn)])), (r0, .inr (0, [.ref a0, .int (nI L0.length)])), (a0, .inl (cA, (100, .inl f0))), (r1, .inr (0, [.ref a1, .int (nI L1.length)])), (a1, .inl (cA, (100, .inl f1))), (r2, .inr (0, [.ref a2, .int n2])), (a2, .inl (cA, (100, .inl f2))), (r3, .inr (0, [.ref a3, .int n3])), (a3, .inl (cA, (100, .inl f3))), (y0, .inr (2, [.int 0, .int (nI rn), .ref q1, .ref q2, .int mn, .ref q3, .ref q4, .int ct, .int il, .ref q5])), (q1, .inl (cA, (2, .inl sf))), (q2, .inl (cA, (60, .inl lf))), (q3, .inl (cA, (320, .inl rf))), (q4, .inl (cA, (320, .inl nf))), (q5, .inl (cA, (6, .inl g9_2))), (o, .inl (cL, (1, .inr (.inl (vp_updL fo 0 (plE L0 (nI r) L0.length).toInt64)))))] H := hP
      have hD : va_D A [(x0, .inr (1, [.ref r0, .ref r1, .ref r2, .ref r3, .int (nI rn)])), (r0, .inr (0, [.ref a0, .int (nI L0.length)])), (a0, .inl (cA, (100, .inl f0))), (r1, .inr (0, [.ref a1, .int (nI L1.length)])), (a1, .inl (cA, (100, .inl f1))), (r2, .inr (0, [.ref a2, .int n2])), (a2, .inl (cA, (100, .inl f2))), (r3, .inr (0, [.ref a3, .int n3])), (a3, .inl (cA, (100, .inl f3))), (y0, .inr (2, [.int 0, .int (nI rn), .ref q1, .ref q2, .int mn, .ref q3, .ref q4, .int ct, .int il, .ref q5])), (q1, .inl (cA, (2, .inl sf))), (q2, .inl (cA, (60, .inl lf))), (q3, .inl (cA, (320, .inl rf))), (q4, .inl (cA, (320, .inl nf))), (q5, .inl (cA, (6, .inl g9_2))), (o, .inl (cL, (1, .inr (.inl (vp_updL fo 0 (plE L0 (nI r) L0.length).toInt64)))))] := hD
      refine lv_istore (lv' := [(6, .int (plE ((V2 L0 L1) 0) (nI r) ((V2 L0 L1) 0).length)), (5, .int 0), (4, .int (nI i)), (3, .ref o), (2, .ref y0), (1, .ref x0), (0, .ref b)]) hx hb dL_law_855 hl (by decide) rfl (fun ls hl => ?_)
      refine lv_aload_n hx hb dL_law_857 rfl (lv_at hl 4 rfl) ?_
      refine g_RVi (As := []) (rest := []) ⟨hx, hb, hml, hown, hts⟩ (mt_X2_thrown l dC dI cA H.size y0 q1 q2 q3 q4 q5 rn 0 sf lf mn rf nf ct il g9_2) (cwV 0 hts gL_law_X2_thrown rfl rfl rfl hdX2_thrown ⟨Nat.le_of_ble_eq_true rfl, Nat.le_of_ble_eq_true rfl⟩) hP hK hD [9, 10, 11, 12, 13, 14] (by decide) rfl (va_recv hK hP (ci := 2) (q0 := 9) rfl rfl) rfl hl.1 rfl (Nat.le_of_ble_eq_true rfl) dL_law_858 hc0 hs0 ?_
      refine lv_iload hx hb dL_law_861 (lv_at hl 1 rfl) ?_
      refine lv_icmp_eq (tgt := 868) hx hb dL_law_863 (by decide) (fun c863 => ?_) (fun c863 => ?_)
      · refine lv_iload hx hb dL_law_868 (lv_at hl 1 rfl) ?_
        refine lv_if_ne (tgt := 885) hx hb dL_law_870 (by decide) (fun c870 => ?_) (fun c870 => ?_)
        · exact absurd (by decide) c870
        · have c870 : 0 = 0 := g_neF 0 0 (by omega) (by omega) c870
          refine lv_aload_n hx hb dL_law_873 rfl (lv_at hl 3 rfl) ?_
          refine lv_iconst (v := 0) hx hb dL_law_874 (by decide) ?_
          refine va_lald hx hb hKl hP 15 1 rfl rfl (vp_in_nI (n := 0) (by omega) (by decide)) dL_law_875 ?_
          rw [show (0 : Int32).toNatClampNeg = 0 from by decide, pk_uLs]
          refine lv_iload hx hb dL_law_876 (lv_at hl 0 rfl) ?_
          refine lv_i2l (v := (plE ((V2 L0 L1) 0) (nI r) ((V2 L0 L1) 0).length).toInt64) hx hb dL_law_878 rfl ?_
          refine W.lcmp hx hb dL_law_879 ?_
          rw [show lg_cmp ((plE L0 (nI r) L0.length).toInt64) ((plE ((V2 L0 L1) 0) (nI r) ((V2 L0 L1) 0).length).toInt64) = 0 from (lg_cmp_eq _ _).mpr rfl]
          refine lv_if_eq (tgt := 885) hx hb dL_law_880 (by decide) (fun c880 => ?_) (fun c880 => ?_)
          · have c880 : 0 = 0 := g_eqT 0 0 (by omega) (by omega) c880
            refine lv_goto (tgt := 1241) hx hb dL_law_885 (by decide) ?_
            exact kk rn L0 L1 _ _ _ _ _ ⟨f0, f1, n2, f2, n3, f3, 0, sf, lf, mn, rf, nf, ct, il, g9_2, vp_updL fo 0 (plE L0 (nI r) L0.length).toInt64, hP, hD, hS, hR0, hR1, hl0, hl1, hrn, hr6, hk0, hk1, hW⟩ (by omega) (by omega) (lv_sub hl [2, 3, 4, 5, 6] rfl)
          · exact absurd (by decide) c880
      · exact absurd (by decide) c863
  · rcases pk_ix (xs (i + 2)) (n := rn) (by omega) with hbad | hbad | ⟨r, hrr, h2⟩
    · refine lv_aload_n hx hb dL_law_820 rfl (lv_at hl 3 rfl) ?_
      refine lv_aload_n hx hb dL_law_821 rfl (lv_at hl 4 rfl) ?_
      refine lv_iload hx hb dL_law_822 (lv_at hl 0 rfl) ?_
      refine lv_iconst (v := 1) hx hb dL_law_824 (by decide) ?_
      refine lv_iadd hx hb dL_law_825 ?_
      rw [show (nI i) + 1 = nI (i + 1) from nI_add i 1]
      refine va_sld hx hb hX hbl hbA hS (vp_in_nI (by omega) (by omega)) dL_law_826 ?_
      rw [show (nI (i + 1)).toNatClampNeg = i + 1 from nI_clamp (by omega)]
      rw [h1]
      refine lv_aload_n hx hb dL_law_827 rfl (lv_at hl 4 rfl) ?_
      refine lv_iload hx hb dL_law_828 (lv_at hl 0 rfl) ?_
      refine lv_iconst (v := 2) hx hb dL_law_830 (by decide) ?_
      refine lv_iadd hx hb dL_law_831 ?_
      rw [show (nI i) + 2 = nI (i + 2) from nI_add i 2]
      refine va_sld hx hb hX hbl hbA hS (vp_in_nI (by omega) (by omega)) dL_law_832 ?_
      rw [show (nI (i + 2)).toNatClampNeg = i + 2 from nI_clamp (by omega)]
      refine lv_aload_n hx hb dL_law_833 rfl (lv_at hl 1 rfl) ?_
      refine g_LS (As := [.ref x0, .int (nI 1), .int (xs (i + 2)), .ref o]) (rest := []) ⟨hx, hb, hml, hown, hts⟩ (mt_L_end_1b_1 l htr dC dI cA cL H.size x0 r0 r1 r2 r3 rn (xs (i + 2)) o fo (Or.inl hbad)) (vx_cwSW 4 hts gL_law_L_end rfl rfl rfl hdL_end ⟨Nat.le_of_ble_eq_true rfl, Nat.le_of_ble_eq_true rfl⟩) hP hKl hD hS hA hZ [0, 15] (by decide) rfl rfl hl.1 rfl (Nat.le_of_ble_eq_true rfl) dL_law_834 hc1 hs1 (fun u9 => [(x0, .inr (1, [.ref r0, .ref r1, .ref r2, .ref r3, .int (nI rn)])), (r0, .inr (0, [.ref a0, .int (nI L0.length)])), (a0, .inl (cA, (100, .inl f0))), (r1, .inr (0, [.ref a1, .int (nI L1.length)])), (a1, .inl (cA, (100, .inl f1))), (r2, .inr (0, [.ref a2, .int n2])), (a2, .inl (cA, (100, .inl f2))), (r3, .inr (0, [.ref a3, .int n3])), (a3, .inl (cA, (100, .inl f3))), (y0, .inr (2, [.int tv, .int (nI rn), .ref q1, .ref q2, .int mn, .ref q3, .ref q4, .int ct, .int il, .ref q5])), (q1, .inl (cA, (2, .inl sf))), (q2, .inl (cA, (60, .inl lf))), (q3, .inl (cA, (320, .inl rf))), (q4, .inl (cA, (320, .inl nf))), (q5, .inl (cA, (6, .inl gf))), (o, .inl (cL, (1, .inr (.inl fo))))]) (fun _ => rfl) (fun _ => rfl) (fun u H locs hw_1 hP hD hS => ?_)
      have hP : va_P (dC, dI) vwCl [(x0, .inr (1, [.ref r0, .ref r1, .ref r2, .ref r3, .int (nI rn)])), (r0, .inr (0, [.ref a0, .int (nI L0.length)])), (a0, .inl (cA, (100, .inl f0))), (r1, .inr (0, [.ref a1, .int (nI L1.length)])), (a1, .inl (cA, (100, .inl f1))), (r2, .inr (0, [.ref a2, .int n2])), (a2, .inl (cA, (100, .inl f2))), (r3, .inr (0, [.ref a3, .int n3])), (a3, .inl (cA, (100, .inl f3))), (y0, .inr (2, [.int tv, .int (nI rn), .ref q1, .ref q2, .int mn, .ref q3, .ref q4, .int ct, .int il, .ref q5])), (q1, .inl (cA, (2, .inl sf))), (q2, .inl (cA, (60, .inl lf))), (q3, .inl (cA, (320, .inl rf))), (q4, .inl (cA, (320, .inl nf))), (q5, .inl (cA, (6, .inl gf))), (o, .inl (cL, (1, .inr (.inl fo))))] H := hP
      have hD : va_D A [(x0, .inr (1, [.ref r0, .ref r1, .ref r2, .ref r3, .int (nI rn)])), (r0, .inr (0, [.ref a0, .int (nI L0.length)])), (a0, .inl (cA, (100, .inl f0))), (r1, .inr (0, [.ref a1, .int (nI L1.length)])), (a1, .inl (cA, (100, .inl f1))), (r2, .inr (0, [.ref a2, .int n2])), (a2, .inl (cA, (100, .inl f2))), (r3, .inr (0, [.ref a3, .int n3])), (a3, .inl (cA, (100, .inl f3))), (y0, .inr (2, [.int tv, .int (nI rn), .ref q1, .ref q2, .int mn, .ref q3, .ref q4, .int ct, .int il, .ref q5])), (q1, .inl (cA, (2, .inl sf))), (q2, .inl (cA, (60, .inl lf))), (q3, .inl (cA, (320, .inl rf))), (q4, .inl (cA, (320, .inl nf))), (q5, .inl (cA, (6, .inl gf))), (o, .inl (cL, (1, .inr (.inl fo))))] := hD
      refine lv_istore (lv' := [(5, .int 1), (4, .int (nI i)), (3, .ref o), (2, .ref y0), (1, .ref x0), (0, .ref b)]) hx hb dL_law_837 hl (by decide) rfl (fun ls hl => ?_)
      refine lv_aload_n hx hb dL_law_839 rfl (lv_at hl 3 rfl) ?_
      refine lv_aload_n hx hb dL_law_840 rfl (lv_at hl 5 rfl) ?_
      refine lv_iload hx hb dL_law_841 (lv_at hl 1 rfl) ?_
      refine lv_iconst (v := 1) hx hb dL_law_843 (by decide) ?_
      refine lv_iadd hx hb dL_law_844 ?_
      rw [show (nI i) + 1 = nI (i + 1) from nI_add i 1]
      refine va_sld hx hb hX hbl hbA hS (vp_in_nI (by omega) (by omega)) dL_law_845 ?_
      rw [show (nI (i + 1)).toNatClampNeg = i + 1 from nI_clamp (by omega)]
      rw [h1]
      refine lv_aload_n hx hb dL_law_846 rfl (lv_at hl 5 rfl) ?_
      refine lv_iload hx hb dL_law_847 (lv_at hl 1 rfl) ?_
      refine lv_iconst (v := 2) hx hb dL_law_849 (by decide) ?_
      refine lv_iadd hx hb dL_law_850 ?_
      rw [show (nI i) + 2 = nI (i + 2) from nI_add i 2]
      refine va_sld hx hb hX hbl hbA hS (vp_in_nI (by omega) (by omega)) dL_law_851 ?_
      rw [show (nI (i + 2)).toNatClampNeg = i + 2 from nI_clamp (by omega)]
      refine g_MVi (As := [.int (nI 1), .int (xs (i + 2))]) (rest := []) ⟨hx, hb, hml, hown, hts⟩ (mt_X2_end_1b l dC dI cA H.size y0 q1 q2 q3 q4 q5 rn tv sf lf mn rf nf ct il gf 1 (xs (i + 2)) (by omega) hr6 (Or.inl hbad)) (cwV 2 hts gL_law_X2_end rfl rfl rfl hdX2_end ⟨Nat.le_of_ble_eq_true rfl, Nat.le_of_ble_eq_true rfl⟩) hP hK hD hS hA [9, 10, 11, 12, 13, 14] (by decide) rfl (va_recv hK hP (ci := 2) (q0 := 9) rfl rfl) rfl hl.1 rfl (Nat.le_of_ble_eq_true rfl) dL_law_852 hc1 hs1 (fun u9 => [(x0, .inr (1, [.ref r0, .ref r1, .ref r2, .ref r3, .int (nI rn)])), (r0, .inr (0, [.ref a0, .int (nI L0.length)])), (a0, .inl (cA, (100, .inl f0))), (r1, .inr (0, [.ref a1, .int (nI L1.length)])), (a1, .inl (cA, (100, .inl f1))), (r2, .inr (0, [.ref a2, .int n2])), (a2, .inl (cA, (100, .inl f2))), (r3, .inr (0, [.ref a3, .int n3])), (a3, .inl (cA, (100, .inl f3))), (y0, .inr (2, [.int 1, .int (nI rn), .ref q1, .ref q2, .int mn, .ref q3, .ref q4, .int ct, .int il, .ref q5])), (q1, .inl (cA, (2, .inl sf))), (q2, .inl (cA, (60, .inl lf))), (q3, .inl (cA, (320, .inl rf))), (q4, .inl (cA, (320, .inl nf))), (q5, .inl (cA, (6, .inl gf))), (o, .inl (cL, (1, .inr (.inl fo))))]) (fun _ => rfl) (fun _ => rfl) (fun u H locs hw_2 hP hD hS => ?_)
      have hw_2 : True := hw_2
      have hP : va_P (dC, dI) vwCl [(x0, .inr (1, [.ref r0, .ref r1, .ref r2, .ref r3, .int (nI rn)])), (r0, .inr (0, [.ref a0, .int (nI L0.length)])), (a0, .inl (cA, (100, .inl f0))), (r1, .inr (0, [.ref a1, .int (nI L1.length)])), (a1, .inl (cA, (100, .inl f1))), (r2, .inr (0, [.ref a2, .int n2])), (a2, .inl (cA, (100, .inl f2))), (r3, .inr (0, [.ref a3, .int n3])), (a3, .inl (cA, (100, .inl f3))), (y0, .inr (2, [.int 1, .int (nI rn), .ref q1, .ref q2, .int mn, .ref q3, .ref q4, .int ct, .int il, .ref q5])), (q1, .inl (cA, (2, .inl sf))), (q2, .inl (cA, (60, .inl lf))), (q3, .inl (cA, (320, .inl rf))), (q4, .inl (cA, (320, .inl nf))), (q5, .inl (cA, (6, .inl gf))), (o, .inl (cL, (1, .inr (.inl fo))))] H := hP
      have hD : va_D A [(x0, .inr (1, [.ref r0, .ref r1, .ref r2, .ref r3, .int (nI rn)])), (r0, .inr (0, [.ref a0, .int (nI L0.length)])), (a0, .inl (cA, (100, .inl f0))), (r1, .inr (0, [.ref a1, .int (nI L1.length)])), (a1, .inl (cA, (100, .inl f1))), (r2, .inr (0, [.ref a2, .int n2])), (a2, .inl (cA, (100, .inl f2))), (r3, .inr (0, [.ref a3, .int n3])), (a3, .inl (cA, (100, .inl f3))), (y0, .inr (2, [.int 1, .int (nI rn), .ref q1, .ref q2, .int mn, .ref q3, .ref q4, .int ct, .int il, .ref q5])), (q1, .inl (cA, (2, .inl sf))), (q2, .inl (cA, (60, .inl lf))), (q3, .inl (cA, (320, .inl rf))), (q4, .inl (cA, (320, .inl nf))), (q5, .inl (cA, (6, .inl gf))), (o, .inl (cL, (1, .inr (.inl fo))))] := hD
      refine lv_istore (lv' := [(6, .int 0), (5, .int 1), (4, .int (nI i)), (3, .ref o), (2, .ref y0), (1, .ref x0), (0, .ref b)]) hx hb dL_law_855 hl (by decide) rfl (fun ls hl => ?_)
      refine lv_aload_n hx hb dL_law_857 rfl (lv_at hl 4 rfl) ?_
      refine g_RVi (As := []) (rest := []) ⟨hx, hb, hml, hown, hts⟩ (mt_X2_thrown l dC dI cA H.size y0 q1 q2 q3 q4 q5 rn 1 sf lf mn rf nf ct il gf) (cwV 0 hts gL_law_X2_thrown rfl rfl rfl hdX2_thrown ⟨Nat.le_of_ble_eq_true rfl, Nat.le_of_ble_eq_true rfl⟩) hP hK hD [9, 10, 11, 12, 13, 14] (by decide) rfl (va_recv hK hP (ci := 2) (q0 := 9) rfl rfl) rfl hl.1 rfl (Nat.le_of_ble_eq_true rfl) dL_law_858 hc1 hs1 ?_
      refine lv_iload hx hb dL_law_861 (lv_at hl 1 rfl) ?_
      refine lv_icmp_eq (tgt := 868) hx hb dL_law_863 (by decide) (fun c863 => ?_) (fun c863 => ?_)
      · refine lv_iload hx hb dL_law_868 (lv_at hl 1 rfl) ?_
        refine lv_if_ne (tgt := 885) hx hb dL_law_870 (by decide) (fun c870 => ?_) (fun c870 => ?_)
        · have c870 : ¬ 1 = 0 := g_neT 1 0 (by omega) (by omega) c870
          refine lv_goto (tgt := 1241) hx hb dL_law_885 (by decide) ?_
          exact kk rn L0 L1 _ _ _ _ _ ⟨f0, f1, n2, f2, n3, f3, 1, sf, lf, mn, rf, nf, ct, il, gf, fo, hP, hD, hS, hR0, hR1, hl0, hl1, hrn, hr6, hk0, hk1, hW⟩ (by omega) (by omega) (lv_sub hl [2, 3, 4, 5, 6] rfl)
        · exact absurd c870 (by decide)
      · exact absurd (by decide) c863
    · refine lv_aload_n hx hb dL_law_820 rfl (lv_at hl 3 rfl) ?_
      refine lv_aload_n hx hb dL_law_821 rfl (lv_at hl 4 rfl) ?_
      refine lv_iload hx hb dL_law_822 (lv_at hl 0 rfl) ?_
      refine lv_iconst (v := 1) hx hb dL_law_824 (by decide) ?_
      refine lv_iadd hx hb dL_law_825 ?_
      rw [show (nI i) + 1 = nI (i + 1) from nI_add i 1]
      refine va_sld hx hb hX hbl hbA hS (vp_in_nI (by omega) (by omega)) dL_law_826 ?_
      rw [show (nI (i + 1)).toNatClampNeg = i + 1 from nI_clamp (by omega)]
      rw [h1]
      refine lv_aload_n hx hb dL_law_827 rfl (lv_at hl 4 rfl) ?_
      refine lv_iload hx hb dL_law_828 (lv_at hl 0 rfl) ?_
      refine lv_iconst (v := 2) hx hb dL_law_830 (by decide) ?_
      refine lv_iadd hx hb dL_law_831 ?_
      rw [show (nI i) + 2 = nI (i + 2) from nI_add i 2]
      refine va_sld hx hb hX hbl hbA hS (vp_in_nI (by omega) (by omega)) dL_law_832 ?_
      rw [show (nI (i + 2)).toNatClampNeg = i + 2 from nI_clamp (by omega)]
      refine lv_aload_n hx hb dL_law_833 rfl (lv_at hl 1 rfl) ?_
      refine g_LS (As := [.ref x0, .int (nI 1), .int (xs (i + 2)), .ref o]) (rest := []) ⟨hx, hb, hml, hown, hts⟩ (mt_L_end_1b_1 l htr dC dI cA cL H.size x0 r0 r1 r2 r3 rn (xs (i + 2)) o fo (Or.inr hbad)) (vx_cwSW 4 hts gL_law_L_end rfl rfl rfl hdL_end ⟨Nat.le_of_ble_eq_true rfl, Nat.le_of_ble_eq_true rfl⟩) hP hKl hD hS hA hZ [0, 15] (by decide) rfl rfl hl.1 rfl (Nat.le_of_ble_eq_true rfl) dL_law_834 hc1 hs1 (fun u9 => [(x0, .inr (1, [.ref r0, .ref r1, .ref r2, .ref r3, .int (nI rn)])), (r0, .inr (0, [.ref a0, .int (nI L0.length)])), (a0, .inl (cA, (100, .inl f0))), (r1, .inr (0, [.ref a1, .int (nI L1.length)])), (a1, .inl (cA, (100, .inl f1))), (r2, .inr (0, [.ref a2, .int n2])), (a2, .inl (cA, (100, .inl f2))), (r3, .inr (0, [.ref a3, .int n3])), (a3, .inl (cA, (100, .inl f3))), (y0, .inr (2, [.int tv, .int (nI rn), .ref q1, .ref q2, .int mn, .ref q3, .ref q4, .int ct, .int il, .ref q5])), (q1, .inl (cA, (2, .inl sf))), (q2, .inl (cA, (60, .inl lf))), (q3, .inl (cA, (320, .inl rf))), (q4, .inl (cA, (320, .inl nf))), (q5, .inl (cA, (6, .inl gf))), (o, .inl (cL, (1, .inr (.inl fo))))]) (fun _ => rfl) (fun _ => rfl) (fun u H locs hw_1 hP hD hS => ?_)
      have hP : va_P (dC, dI) vwCl [(x0, .inr (1, [.ref r0, .ref r1, .ref r2, .ref r3, .int (nI rn)])), (r0, .inr (0, [.ref a0, .int (nI L0.length)])), (a0, .inl (cA, (100, .inl f0))), (r1, .inr (0, [.ref a1, .int (nI L1.length)])), (a1, .inl (cA, (100, .inl f1))), (r2, .inr (0, [.ref a2, .int n2])), (a2, .inl (cA, (100, .inl f2))), (r3, .inr (0, [.ref a3, .int n3])), (a3, .inl (cA, (100, .inl f3))), (y0, .inr (2, [.int tv, .int (nI rn), .ref q1, .ref q2, .int mn, .ref q3, .ref q4, .int ct, .int il, .ref q5])), (q1, .inl (cA, (2, .inl sf))), (q2, .inl (cA, (60, .inl lf))), (q3, .inl (cA, (320, .inl rf))), (q4, .inl (cA, (320, .inl nf))), (q5, .inl (cA, (6, .inl gf))), (o, .inl (cL, (1, .inr (.inl fo))))] H := hP
      have hD : va_D A [(x0, .inr (1, [.ref r0, .ref r1, .ref r2, .ref r3, .int (nI rn)])), (r0, .inr (0, [.ref a0, .int (nI L0.length)])), (a0, .inl (cA, (100, .inl f0))), (r1, .inr (0, [.ref a1, .int (nI L1.length)])), (a1, .inl (cA, (100, .inl f1))), (r2, .inr (0, [.ref a2, .int n2])), (a2, .inl (cA, (100, .inl f2))), (r3, .inr (0, [.ref a3, .int n3])), (a3, .inl (cA, (100, .inl f3))), (y0, .inr (2, [.int tv, .int (nI rn), .ref q1, .ref q2, .int mn, .ref q3, .ref q4, .int ct, .int il, .ref q5])), (q1, .inl (cA, (2, .inl sf))), (q2, .inl (cA, (60, .inl lf))), (q3, .inl (cA, (320, .inl rf))), (q4, .inl (cA, (320, .inl nf))), (q5, .inl (cA, (6, .inl gf))), (o, .inl (cL, (1, .inr (.inl fo))))] := hD
      refine lv_istore (lv' := [(5, .int 1), (4, .int (nI i)), (3, .ref o), (2, .ref y0), (1, .ref x0), (0, .ref b)]) hx hb dL_law_837 hl (by decide) rfl (fun ls hl => ?_)
      refine lv_aload_n hx hb dL_law_839 rfl (lv_at hl 3 rfl) ?_
      refine lv_aload_n hx hb dL_law_840 rfl (lv_at hl 5 rfl) ?_
      refine lv_iload hx hb dL_law_841 (lv_at hl 1 rfl) ?_
      refine lv_iconst (v := 1) hx hb dL_law_843 (by decide) ?_
      refine lv_iadd hx hb dL_law_844 ?_
      rw [show (nI i) + 1 = nI (i + 1) from nI_add i 1]
      refine va_sld hx hb hX hbl hbA hS (vp_in_nI (by omega) (by omega)) dL_law_845 ?_
      rw [show (nI (i + 1)).toNatClampNeg = i + 1 from nI_clamp (by omega)]
      rw [h1]
      refine lv_aload_n hx hb dL_law_846 rfl (lv_at hl 5 rfl) ?_
      refine lv_iload hx hb dL_law_847 (lv_at hl 1 rfl) ?_
      refine lv_iconst (v := 2) hx hb dL_law_849 (by decide) ?_
      refine lv_iadd hx hb dL_law_850 ?_
      rw [show (nI i) + 2 = nI (i + 2) from nI_add i 2]
      refine va_sld hx hb hX hbl hbA hS (vp_in_nI (by omega) (by omega)) dL_law_851 ?_
      rw [show (nI (i + 2)).toNatClampNeg = i + 2 from nI_clamp (by omega)]
      refine g_MVi (As := [.int (nI 1), .int (xs (i + 2))]) (rest := []) ⟨hx, hb, hml, hown, hts⟩ (mt_X2_end_1b l dC dI cA H.size y0 q1 q2 q3 q4 q5 rn tv sf lf mn rf nf ct il gf 1 (xs (i + 2)) (by omega) hr6 (Or.inr hbad)) (cwV 2 hts gL_law_X2_end rfl rfl rfl hdX2_end ⟨Nat.le_of_ble_eq_true rfl, Nat.le_of_ble_eq_true rfl⟩) hP hK hD hS hA [9, 10, 11, 12, 13, 14] (by decide) rfl (va_recv hK hP (ci := 2) (q0 := 9) rfl rfl) rfl hl.1 rfl (Nat.le_of_ble_eq_true rfl) dL_law_852 hc1 hs1 (fun u9 => [(x0, .inr (1, [.ref r0, .ref r1, .ref r2, .ref r3, .int (nI rn)])), (r0, .inr (0, [.ref a0, .int (nI L0.length)])), (a0, .inl (cA, (100, .inl f0))), (r1, .inr (0, [.ref a1, .int (nI L1.length)])), (a1, .inl (cA, (100, .inl f1))), (r2, .inr (0, [.ref a2, .int n2])), (a2, .inl (cA, (100, .inl f2))), (r3, .inr (0, [.ref a3, .int n3])), (a3, .inl (cA, (100, .inl f3))), (y0, .inr (2, [.int 1, .int (nI rn), .ref q1, .ref q2, .int mn, .ref q3, .ref q4, .int ct, .int il, .ref q5])), (q1, .inl (cA, (2, .inl sf))), (q2, .inl (cA, (60, .inl lf))), (q3, .inl (cA, (320, .inl rf))), (q4, .inl (cA, (320, .inl nf))), (q5, .inl (cA, (6, .inl gf))), (o, .inl (cL, (1, .inr (.inl fo))))]) (fun _ => rfl) (fun _ => rfl) (fun u H locs hw_2 hP hD hS => ?_)
      have hw_2 : True := hw_2
      have hP : va_P (dC, dI) vwCl [(x0, .inr (1, [.ref r0, .ref r1, .ref r2, .ref r3, .int (nI rn)])), (r0, .inr (0, [.ref a0, .int (nI L0.length)])), (a0, .inl (cA, (100, .inl f0))), (r1, .inr (0, [.ref a1, .int (nI L1.length)])), (a1, .inl (cA, (100, .inl f1))), (r2, .inr (0, [.ref a2, .int n2])), (a2, .inl (cA, (100, .inl f2))), (r3, .inr (0, [.ref a3, .int n3])), (a3, .inl (cA, (100, .inl f3))), (y0, .inr (2, [.int 1, .int (nI rn), .ref q1, .ref q2, .int mn, .ref q3, .ref q4, .int ct, .int il, .ref q5])), (q1, .inl (cA, (2, .inl sf))), (q2, .inl (cA, (60, .inl lf))), (q3, .inl (cA, (320, .inl rf))), (q4, .inl (cA, (320, .inl nf))), (q5, .inl (cA, (6, .inl gf))), (o, .inl (cL, (1, .inr (.inl fo))))] H := hP
      have hD : va_D A [(x0, .inr (1, [.ref r0, .ref r1, .ref r2, .ref r3, .int (nI rn)])), (r0, .inr (0, [.ref a0, .int (nI L0.length)])), (a0, .inl (cA, (100, .inl f0))), (r1, .inr (0, [.ref a1, .int (nI L1.length)])), (a1, .inl (cA, (100, .inl f1))), (r2, .inr (0, [.ref a2, .int n2])), (a2, .inl (cA, (100, .inl f2))), (r3, .inr (0, [.ref a3, .int n3])), (a3, .inl (cA, (100, .inl f3))), (y0, .inr (2, [.int 1, .int (nI rn), .ref q1, .ref q2, .int mn, .ref q3, .ref q4, .int ct, .int il, .ref q5])), (q1, .inl (cA, (2, .inl sf))), (q2, .inl (cA, (60, .inl lf))), (q3, .inl (cA, (320, .inl rf))), (q4, .inl (cA, (320, .inl nf))), (q5, .inl (cA, (6, .inl gf))), (o, .inl (cL, (1, .inr (.inl fo))))] := hD
      refine lv_istore (lv' := [(6, .int 0), (5, .int 1), (4, .int (nI i)), (3, .ref o), (2, .ref y0), (1, .ref x0), (0, .ref b)]) hx hb dL_law_855 hl (by decide) rfl (fun ls hl => ?_)
      refine lv_aload_n hx hb dL_law_857 rfl (lv_at hl 4 rfl) ?_
      refine g_RVi (As := []) (rest := []) ⟨hx, hb, hml, hown, hts⟩ (mt_X2_thrown l dC dI cA H.size y0 q1 q2 q3 q4 q5 rn 1 sf lf mn rf nf ct il gf) (cwV 0 hts gL_law_X2_thrown rfl rfl rfl hdX2_thrown ⟨Nat.le_of_ble_eq_true rfl, Nat.le_of_ble_eq_true rfl⟩) hP hK hD [9, 10, 11, 12, 13, 14] (by decide) rfl (va_recv hK hP (ci := 2) (q0 := 9) rfl rfl) rfl hl.1 rfl (Nat.le_of_ble_eq_true rfl) dL_law_858 hc1 hs1 ?_
      refine lv_iload hx hb dL_law_861 (lv_at hl 1 rfl) ?_
      refine lv_icmp_eq (tgt := 868) hx hb dL_law_863 (by decide) (fun c863 => ?_) (fun c863 => ?_)
      · refine lv_iload hx hb dL_law_868 (lv_at hl 1 rfl) ?_
        refine lv_if_ne (tgt := 885) hx hb dL_law_870 (by decide) (fun c870 => ?_) (fun c870 => ?_)
        · have c870 : ¬ 1 = 0 := g_neT 1 0 (by omega) (by omega) c870
          refine lv_goto (tgt := 1241) hx hb dL_law_885 (by decide) ?_
          exact kk rn L0 L1 _ _ _ _ _ ⟨f0, f1, n2, f2, n3, f3, 1, sf, lf, mn, rf, nf, ct, il, gf, fo, hP, hD, hS, hR0, hR1, hl0, hl1, hrn, hr6, hk0, hk1, hW⟩ (by omega) (by omega) (lv_sub hl [2, 3, 4, 5, 6] rfl)
        · exact absurd c870 (by decide)
      · exact absurd (by decide) c863
    · refine lv_aload_n hx hb dL_law_820 rfl (lv_at hl 3 rfl) ?_
      refine lv_aload_n hx hb dL_law_821 rfl (lv_at hl 4 rfl) ?_
      refine lv_iload hx hb dL_law_822 (lv_at hl 0 rfl) ?_
      refine lv_iconst (v := 1) hx hb dL_law_824 (by decide) ?_
      refine lv_iadd hx hb dL_law_825 ?_
      rw [show (nI i) + 1 = nI (i + 1) from nI_add i 1]
      refine va_sld hx hb hX hbl hbA hS (vp_in_nI (by omega) (by omega)) dL_law_826 ?_
      rw [show (nI (i + 1)).toNatClampNeg = i + 1 from nI_clamp (by omega)]
      rw [h1]
      refine lv_aload_n hx hb dL_law_827 rfl (lv_at hl 4 rfl) ?_
      refine lv_iload hx hb dL_law_828 (lv_at hl 0 rfl) ?_
      refine lv_iconst (v := 2) hx hb dL_law_830 (by decide) ?_
      refine lv_iadd hx hb dL_law_831 ?_
      rw [show (nI i) + 2 = nI (i + 2) from nI_add i 2]
      refine va_sld hx hb hX hbl hbA hS (vp_in_nI (by omega) (by omega)) dL_law_832 ?_
      rw [show (nI (i + 2)).toNatClampNeg = i + 2 from nI_clamp (by omega)]
      rw [h2]
      refine lv_aload_n hx hb dL_law_833 rfl (lv_at hl 1 rfl) ?_
      refine g_LS (As := [.ref x0, .int (nI 1), .int (nI r), .ref o]) (rest := []) ⟨hx, hb, hml, hown, hts⟩ (mt_L_end1 l htr dC dI cA cL H.size x0 r0 r1 r2 r3 rn a1 L1 f1 (nI r) o fo hR1 (nI_pos (by omega)) (nI_lt hrr (by omega))) (vx_cwSW 4 hts gL_law_L_end rfl rfl rfl hdL_end ⟨Nat.le_of_ble_eq_true rfl, Nat.le_of_ble_eq_true rfl⟩) hP hKl hD hS hA hZ [0, 3, 4, 15] (by decide) rfl rfl hl.1 rfl (Nat.le_of_ble_eq_true rfl) dL_law_834 hc0 hs0 (fun u9 => [(x0, .inr (1, [.ref r0, .ref r1, .ref r2, .ref r3, .int (nI rn)])), (r0, .inr (0, [.ref a0, .int (nI L0.length)])), (a0, .inl (cA, (100, .inl f0))), (r1, .inr (0, [.ref a1, .int (nI L1.length)])), (a1, .inl (cA, (100, .inl f1))), (r2, .inr (0, [.ref a2, .int n2])), (a2, .inl (cA, (100, .inl f2))), (r3, .inr (0, [.ref a3, .int n3])), (a3, .inl (cA, (100, .inl f3))), (y0, .inr (2, [.int tv, .int (nI rn), .ref q1, .ref q2, .int mn, .ref q3, .ref q4, .int ct, .int il, .ref q5])), (q1, .inl (cA, (2, .inl sf))), (q2, .inl (cA, (60, .inl lf))), (q3, .inl (cA, (320, .inl rf))), (q4, .inl (cA, (320, .inl nf))), (q5, .inl (cA, (6, .inl gf))), (o, .inl (cL, (1, .inr (.inl (vp_updL fo 0 (plE L1 (nI r) L1.length).toInt64)))))]) (fun _ => rfl) (fun _ => rfl) (fun u H locs hw_1 hP hD hS => ?_)
      have hP : va_P (dC, dI) vwCl [(x0, .inr (1, [.ref r0, .ref r1, .ref r2, .ref r3, .int (nI rn)])), (r0, .inr (0, [.ref a0, .int (nI L0.length)])), (a0, .inl (cA, (100, .inl f0))), (r1, .inr (0, [.ref a1, .int (nI L1.length)])), (a1, .inl (cA, (100, .inl f1))), (r2, .inr (0, [.ref a2, .int n2])), (a2, .inl (cA, (100, .inl f2))), (r3, .inr (0, [.ref a3, .int n3])), (a3, .inl (cA, (100, .inl f3))), (y0, .inr (2, [.int tv, .int (nI rn), .ref q1, .ref q2, .int mn, .ref q3, .ref q4, .int ct, .int il, .ref q5])), (q1, .inl (cA, (2, .inl sf))), (q2, .inl (cA, (60, .inl lf))), (q3, .inl (cA, (320, .inl rf))), (q4, .inl (cA, (320, .inl nf))), (q5, .inl (cA, (6, .inl gf))), (o, .inl (cL, (1, .inr (.inl (vp_updL fo 0 (plE L1 (nI r) L1.length).toInt64)))))] H := hP
      have hD : va_D A [(x0, .inr (1, [.ref r0, .ref r1, .ref r2, .ref r3, .int (nI rn)])), (r0, .inr (0, [.ref a0, .int (nI L0.length)])), (a0, .inl (cA, (100, .inl f0))), (r1, .inr (0, [.ref a1, .int (nI L1.length)])), (a1, .inl (cA, (100, .inl f1))), (r2, .inr (0, [.ref a2, .int n2])), (a2, .inl (cA, (100, .inl f2))), (r3, .inr (0, [.ref a3, .int n3])), (a3, .inl (cA, (100, .inl f3))), (y0, .inr (2, [.int tv, .int (nI rn), .ref q1, .ref q2, .int mn, .ref q3, .ref q4, .int ct, .int il, .ref q5])), (q1, .inl (cA, (2, .inl sf))), (q2, .inl (cA, (60, .inl lf))), (q3, .inl (cA, (320, .inl rf))), (q4, .inl (cA, (320, .inl nf))), (q5, .inl (cA, (6, .inl gf))), (o, .inl (cL, (1, .inr (.inl (vp_updL fo 0 (plE L1 (nI r) L1.length).toInt64)))))] := hD
      refine lv_istore (lv' := [(5, .int 0), (4, .int (nI i)), (3, .ref o), (2, .ref y0), (1, .ref x0), (0, .ref b)]) hx hb dL_law_837 hl (by decide) rfl (fun ls hl => ?_)
      refine lv_aload_n hx hb dL_law_839 rfl (lv_at hl 3 rfl) ?_
      refine lv_aload_n hx hb dL_law_840 rfl (lv_at hl 5 rfl) ?_
      refine lv_iload hx hb dL_law_841 (lv_at hl 1 rfl) ?_
      refine lv_iconst (v := 1) hx hb dL_law_843 (by decide) ?_
      refine lv_iadd hx hb dL_law_844 ?_
      rw [show (nI i) + 1 = nI (i + 1) from nI_add i 1]
      refine va_sld hx hb hX hbl hbA hS (vp_in_nI (by omega) (by omega)) dL_law_845 ?_
      rw [show (nI (i + 1)).toNatClampNeg = i + 1 from nI_clamp (by omega)]
      rw [h1]
      refine lv_aload_n hx hb dL_law_846 rfl (lv_at hl 5 rfl) ?_
      refine lv_iload hx hb dL_law_847 (lv_at hl 1 rfl) ?_
      refine lv_iconst (v := 2) hx hb dL_law_849 (by decide) ?_
      refine lv_iadd hx hb dL_law_850 ?_
      rw [show (nI i) + 2 = nI (i + 2) from nI_add i 2]
      refine va_sld hx hb hX hbl hbA hS (vp_in_nI (by omega) (by omega)) dL_law_851 ?_
      rw [show (nI (i + 2)).toNatClampNeg = i + 2 from nI_clamp (by omega)]
      rw [h2]
      refine g_MVi (As := [.int (nI 1), .int (nI r)]) (rest := []) ⟨hx, hb, hml, hown, hts⟩ (mt_X2_end l dC dI cA H.size y0 q1 q2 q3 q4 q5 rn tv sf lf mn rf nf ct il gf (V2 L0 L1) 1 r hW hrn hr6 hok (by omega) hrr) (cwV 2 hts gL_law_X2_end rfl rfl rfl hdX2_end ⟨Nat.le_of_ble_eq_true rfl, Nat.le_of_ble_eq_true rfl⟩) hP hK hD hS hA [9, 10, 11, 12, 13, 14] (by decide) rfl (va_recv hK hP (ci := 2) (q0 := 9) rfl rfl) rfl hl.1 rfl (Nat.le_of_ble_eq_true rfl) dL_law_852 hc0 hs0 (fun u9 => [(x0, .inr (1, [.ref r0, .ref r1, .ref r2, .ref r3, .int (nI rn)])), (r0, .inr (0, [.ref a0, .int (nI L0.length)])), (a0, .inl (cA, (100, .inl f0))), (r1, .inr (0, [.ref a1, .int (nI L1.length)])), (a1, .inl (cA, (100, .inl f1))), (r2, .inr (0, [.ref a2, .int n2])), (a2, .inl (cA, (100, .inl f2))), (r3, .inr (0, [.ref a3, .int n3])), (a3, .inl (cA, (100, .inl f3))), (y0, .inr (2, [.int 0, .int (nI rn), .ref q1, .ref q2, .int mn, .ref q3, .ref q4, .int ct, .int il, .ref q5])), (q1, .inl (cA, (2, .inl sf))), (q2, .inl (cA, (60, .inl lf))), (q3, .inl (cA, (320, .inl rf))), (q4, .inl (cA, (320, .inl nf))), (q5, .inl (cA, (6, .inl u9))), (o, .inl (cL, (1, .inr (.inl (vp_updL fo 0 (plE L1 (nI r) L1.length).toInt64)))))]) (fun _ => rfl) (fun _ => rfl) (fun u H locs hw_3 hP hD hS => ?_)
      obtain ⟨g9_2, rfl⟩ : ∃ z, z = u := ⟨_, rfl⟩
      have hw_3 : True := hw_3
      have hP : va_P (dC, dI) vwCl [(x0, .inr (1, [.ref r0, .ref r1, .ref r2, .ref r3, .int (nI rn)])), (r0, .inr (0, [.ref a0, .int (nI L0.length)])), (a0, .inl (cA, (100, .inl f0))), (r1, .inr (0, [.ref a1, .int (nI L1.length)])), (a1, .inl (cA, (100, .inl f1))), (r2, .inr (0, [.ref a2, .int n2])), (a2, .inl (cA, (100, .inl f2))), (r3, .inr (0, [.ref a3, .int n3])), (a3, .inl (cA, (100, .inl f3))), (y0, .inr (2, [.int 0, .int (nI rn), .ref q1, .ref q2, .int mn, .ref q3, .ref q4, .int ct, .int il, .ref q5])), (q1, .inl (cA, (2, .inl sf))), (q2, .inl (cA, (60, .inl lf))), (q3, .inl (cA, (320, .inl rf))), (q4, .inl (cA, (320, .inl nf))), (q5, .inl (cA, (6, .inl g9_2))), (o, .inl (cL, (1, .inr (.inl (vp_updL fo 0 (plE L1 (nI r) L1.length).toInt64)))))] H := hP
      have hD : va_D A [(x0, .inr (1, [.ref r0, .ref r1, .ref r2, .ref r3, .int (nI rn)])), (r0, .inr (0, [.ref a0, .int (nI L0.length)])), (a0, .inl (cA, (100, .inl f0))), (r1, .inr (0, [.ref a1, .int (nI L1.length)])), (a1, .inl (cA, (100, .inl f1))), (r2, .inr (0, [.ref a2, .int n2])), (a2, .inl (cA, (100, .inl f2))), (r3, .inr (0, [.ref a3, .int n3])), (a3, .inl (cA, (100, .inl f3))), (y0, .inr (2, [.int 0, .int (nI rn), .ref q1, .ref q2, .int mn, .ref q3, .ref q4, .int ct, .int il, .ref q5])), (q1, .inl (cA, (2, .inl sf))), (q2, .inl (cA, (60, .inl lf))), (q3, .inl (cA, (320, .inl rf))), (q4, .inl (cA, (320, .inl nf))), (q5, .inl (cA, (6, .inl g9_2))), (o, .inl (cL, (1, .inr (.inl (vp_updL fo 0 (plE L1 (nI r) L1.length).toInt64)))))] := hD
      refine lv_istore (lv' := [(6, .int (plE ((V2 L0 L1) 1) (nI r) ((V2 L0 L1) 1).length)), (5, .int 0), (4, .int (nI i)), (3, .ref o), (2, .ref y0), (1, .ref x0), (0, .ref b)]) hx hb dL_law_855 hl (by decide) rfl (fun ls hl => ?_)
      refine lv_aload_n hx hb dL_law_857 rfl (lv_at hl 4 rfl) ?_
      refine g_RVi (As := []) (rest := []) ⟨hx, hb, hml, hown, hts⟩ (mt_X2_thrown l dC dI cA H.size y0 q1 q2 q3 q4 q5 rn 0 sf lf mn rf nf ct il g9_2) (cwV 0 hts gL_law_X2_thrown rfl rfl rfl hdX2_thrown ⟨Nat.le_of_ble_eq_true rfl, Nat.le_of_ble_eq_true rfl⟩) hP hK hD [9, 10, 11, 12, 13, 14] (by decide) rfl (va_recv hK hP (ci := 2) (q0 := 9) rfl rfl) rfl hl.1 rfl (Nat.le_of_ble_eq_true rfl) dL_law_858 hc0 hs0 ?_
      refine lv_iload hx hb dL_law_861 (lv_at hl 1 rfl) ?_
      refine lv_icmp_eq (tgt := 868) hx hb dL_law_863 (by decide) (fun c863 => ?_) (fun c863 => ?_)
      · refine lv_iload hx hb dL_law_868 (lv_at hl 1 rfl) ?_
        refine lv_if_ne (tgt := 885) hx hb dL_law_870 (by decide) (fun c870 => ?_) (fun c870 => ?_)
        · exact absurd (by decide) c870
        · have c870 : 0 = 0 := g_neF 0 0 (by omega) (by omega) c870
          refine lv_aload_n hx hb dL_law_873 rfl (lv_at hl 3 rfl) ?_
          refine lv_iconst (v := 0) hx hb dL_law_874 (by decide) ?_
          refine va_lald hx hb hKl hP 15 1 rfl rfl (vp_in_nI (n := 0) (by omega) (by decide)) dL_law_875 ?_
          rw [show (0 : Int32).toNatClampNeg = 0 from by decide, pk_uLs]
          refine lv_iload hx hb dL_law_876 (lv_at hl 0 rfl) ?_
          refine lv_i2l (v := (plE ((V2 L0 L1) 1) (nI r) ((V2 L0 L1) 1).length).toInt64) hx hb dL_law_878 rfl ?_
          refine W.lcmp hx hb dL_law_879 ?_
          rw [show lg_cmp ((plE L1 (nI r) L1.length).toInt64) ((plE ((V2 L0 L1) 1) (nI r) ((V2 L0 L1) 1).length).toInt64) = 0 from (lg_cmp_eq _ _).mpr rfl]
          refine lv_if_eq (tgt := 885) hx hb dL_law_880 (by decide) (fun c880 => ?_) (fun c880 => ?_)
          · have c880 : 0 = 0 := g_eqT 0 0 (by omega) (by omega) c880
            refine lv_goto (tgt := 1241) hx hb dL_law_885 (by decide) ?_
            exact kk rn L0 L1 _ _ _ _ _ ⟨f0, f1, n2, f2, n3, f3, 0, sf, lf, mn, rf, nf, ct, il, g9_2, vp_updL fo 0 (plE L1 (nI r) L1.length).toInt64, hP, hD, hS, hR0, hR1, hl0, hl1, hrn, hr6, hk0, hk1, hW⟩ (by omega) (by omega) (lv_sub hl [2, 3, 4, 5, 6] rfl)
          · exact absurd (by decide) c880
      · exact absurd (by decide) c863

set_option maxHeartbeats 4000000 in
set_option maxRecDepth 100000 in
theorem lw_op_12 {p : Program} {l : Launch} {e : Env} {s : State} {m : MethodId} {below : List Frame} {meth : Method} {c : Code} {Q : State → Prop} {b L : Nat} {xs : Nat → Int32} {dC : Nat → ClassId} {dI : Nat → Nat → Nat} {cA cL : ClassId} {A : Nat → Prop} (E : lwE p l s m c b L xs dC dI cA cL A) {x0 r0 r1 r2 r3 a0 a1 a2 a3 y0 q1 q2 q3 q4 q5 o : Nat} {i : Nat} (hi : i + 4 ≤ L) {cells slots : Nat} (hC : cells + 1 ≤ 1053) (hS9 : slots + 6 ≤ 9402) {rn : Nat} {L0 L1 : List Int32} {H : Heap} {locs : List Loc} (hI : lwI dC dI cA cL A s.heap x0 r0 r1 r2 r3 a0 a1 a2 a3 y0 q1 q2 q3 q4 q5 o rn L0 L1 H locs) {ls : Array Slot} (hl : lv_has ls 9 [(4, .int (nI i)), (3, .ref o), (2, .ref y0), (1, .ref x0), (0, .ref b)])
    (kk : ∀ (rn : Nat) (L0 L1 : List Int32) (H : Heap) (locs : List Loc) (cells1 slots1 : Nat) (ls : Array Slot), lwI dC dI cA cL A s.heap x0 r0 r1 r2 r3 a0 a1 a2 a3 y0 q1 q2 q3 q4 q5 o rn L0 L1 H locs → cells1 ≤ cells + 1 → slots1 ≤ slots + 6 → lv_has ls 9 [(4, .int (nI i)), (3, .ref o), (2, .ref y0), (1, .ref x0), (0, .ref b)] → W p l e room_1 s m #[Value.ref b] below meth c H locs cells1 slots1 Q (F0 m 1241 ls [])) :
    W p l e room_1 s m #[Value.ref b] below meth c H locs cells slots Q (F0 m 888 ls []) := by
  obtain ⟨hx, hb, hml, hown, hts, hX, hbl, hbA, hA, htr, hKl, hZ, hL2⟩ := E
  obtain ⟨f0, f1, n2, f2, n3, f3, tv, sf, lf, mn, rf, nf, ct, il, gf, fo, hP, hD, hS, hR0, hR1, hl0, hl1, hrn, hr6, hk0, hk1, hW⟩ := hI
  have hK : va_K (dC, dI) vwCl [(cA, .int)] s := hKl.sub [0] rfl
  have hok := V2_ok hk0 hk1
  have hc0 : cells ≤ room_1.cells := (show cells ≤ 1053 from by omega)
  have hs0 : slots ≤ room_1.slots := (show slots ≤ 9402 from by omega)
  have hc1 : cells + 1 ≤ room_1.cells := hC
  have hs1 : slots + 6 ≤ room_1.slots := hS9
  rcases wd_ix (xs (i + 1)) with hbad | h1 | h1
  · refine lv_aload_n hx hb dL_law_888 rfl (lv_at hl 3 rfl) ?_
    refine lv_aload_n hx hb dL_law_889 rfl (lv_at hl 4 rfl) ?_
    refine lv_iload hx hb dL_law_890 (lv_at hl 0 rfl) ?_
    refine lv_iconst (v := 1) hx hb dL_law_892 (by decide) ?_
    refine lv_iadd hx hb dL_law_893 ?_
    rw [show (nI i) + 1 = nI (i + 1) from nI_add i 1]
    refine va_sld hx hb hX hbl hbA hS (vp_in_nI (by omega) (by omega)) dL_law_894 ?_
    rw [show (nI (i + 1)).toNatClampNeg = i + 1 from nI_clamp (by omega)]
    refine lv_aload_n hx hb dL_law_895 rfl (lv_at hl 4 rfl) ?_
    refine lv_iload hx hb dL_law_896 (lv_at hl 0 rfl) ?_
    refine lv_iconst (v := 2) hx hb dL_law_898 (by decide) ?_
    refine lv_iadd hx hb dL_law_899 ?_
    rw [show (nI i) + 2 = nI (i + 2) from nI_add i 2]
    refine va_sld hx hb hX hbl hbA hS (vp_in_nI (by omega) (by omega)) dL_law_900 ?_
    rw [show (nI (i + 2)).toNatClampNeg = i + 2 from nI_clamp (by omega)]
    refine lv_aload_n hx hb dL_law_901 rfl (lv_at hl 4 rfl) ?_
    refine lv_iload hx hb dL_law_902 (lv_at hl 0 rfl) ?_
    refine lv_iconst (v := 3) hx hb dL_law_904 (by decide) ?_
    refine lv_iadd hx hb dL_law_905 ?_
    rw [show (nI i) + 3 = nI (i + 3) from nI_add i 3]
    refine va_sld hx hb hX hbl hbA hS (vp_in_nI (by omega) (by omega)) dL_law_906 ?_
    rw [show (nI (i + 3)).toNatClampNeg = i + 3 from nI_clamp (by omega)]
    refine lv_aload_n hx hb dL_law_907 rfl (lv_at hl 1 rfl) ?_
    refine g_LS (As := [.ref x0, .int (xs (i + 1)), .int (xs (i + 2)), .int (xs (i + 3)), .ref o]) (rest := []) ⟨hx, hb, hml, hown, hts⟩ (mt_L_crosses_1 l htr dC dI cA cL H.size x0 (xs (i + 1)) (xs (i + 2)) (xs (i + 3)) r0 r1 r2 r3 (nI rn) o fo hbad) (vx_cwSW 5 hts gL_law_L_crosses rfl rfl rfl hdL_crosses ⟨Nat.le_of_ble_eq_true rfl, Nat.le_of_ble_eq_true rfl⟩) hP hKl hD hS hA hZ [0, 15] (by decide) rfl rfl hl.1 rfl (Nat.le_of_ble_eq_true rfl) dL_law_908 hc1 hs1 (fun u9 => [(x0, .inr (1, [.ref r0, .ref r1, .ref r2, .ref r3, .int (nI rn)])), (r0, .inr (0, [.ref a0, .int (nI L0.length)])), (a0, .inl (cA, (100, .inl f0))), (r1, .inr (0, [.ref a1, .int (nI L1.length)])), (a1, .inl (cA, (100, .inl f1))), (r2, .inr (0, [.ref a2, .int n2])), (a2, .inl (cA, (100, .inl f2))), (r3, .inr (0, [.ref a3, .int n3])), (a3, .inl (cA, (100, .inl f3))), (y0, .inr (2, [.int tv, .int (nI rn), .ref q1, .ref q2, .int mn, .ref q3, .ref q4, .int ct, .int il, .ref q5])), (q1, .inl (cA, (2, .inl sf))), (q2, .inl (cA, (60, .inl lf))), (q3, .inl (cA, (320, .inl rf))), (q4, .inl (cA, (320, .inl nf))), (q5, .inl (cA, (6, .inl gf))), (o, .inl (cL, (1, .inr (.inl fo))))]) (fun _ => rfl) (fun _ => rfl) (fun u H locs hw_1 hP hD hS => ?_)
    have hP : va_P (dC, dI) vwCl [(x0, .inr (1, [.ref r0, .ref r1, .ref r2, .ref r3, .int (nI rn)])), (r0, .inr (0, [.ref a0, .int (nI L0.length)])), (a0, .inl (cA, (100, .inl f0))), (r1, .inr (0, [.ref a1, .int (nI L1.length)])), (a1, .inl (cA, (100, .inl f1))), (r2, .inr (0, [.ref a2, .int n2])), (a2, .inl (cA, (100, .inl f2))), (r3, .inr (0, [.ref a3, .int n3])), (a3, .inl (cA, (100, .inl f3))), (y0, .inr (2, [.int tv, .int (nI rn), .ref q1, .ref q2, .int mn, .ref q3, .ref q4, .int ct, .int il, .ref q5])), (q1, .inl (cA, (2, .inl sf))), (q2, .inl (cA, (60, .inl lf))), (q3, .inl (cA, (320, .inl rf))), (q4, .inl (cA, (320, .inl nf))), (q5, .inl (cA, (6, .inl gf))), (o, .inl (cL, (1, .inr (.inl fo))))] H := hP
    have hD : va_D A [(x0, .inr (1, [.ref r0, .ref r1, .ref r2, .ref r3, .int (nI rn)])), (r0, .inr (0, [.ref a0, .int (nI L0.length)])), (a0, .inl (cA, (100, .inl f0))), (r1, .inr (0, [.ref a1, .int (nI L1.length)])), (a1, .inl (cA, (100, .inl f1))), (r2, .inr (0, [.ref a2, .int n2])), (a2, .inl (cA, (100, .inl f2))), (r3, .inr (0, [.ref a3, .int n3])), (a3, .inl (cA, (100, .inl f3))), (y0, .inr (2, [.int tv, .int (nI rn), .ref q1, .ref q2, .int mn, .ref q3, .ref q4, .int ct, .int il, .ref q5])), (q1, .inl (cA, (2, .inl sf))), (q2, .inl (cA, (60, .inl lf))), (q3, .inl (cA, (320, .inl rf))), (q4, .inl (cA, (320, .inl nf))), (q5, .inl (cA, (6, .inl gf))), (o, .inl (cL, (1, .inr (.inl fo))))] := hD
    refine lv_istore (lv' := [(5, .int 1), (4, .int (nI i)), (3, .ref o), (2, .ref y0), (1, .ref x0), (0, .ref b)]) hx hb dL_law_911 hl (by decide) rfl (fun ls hl => ?_)
    refine lv_aload_n hx hb dL_law_913 rfl (lv_at hl 3 rfl) ?_
    refine lv_aload_n hx hb dL_law_914 rfl (lv_at hl 5 rfl) ?_
    refine lv_iload hx hb dL_law_915 (lv_at hl 1 rfl) ?_
    refine lv_iconst (v := 1) hx hb dL_law_917 (by decide) ?_
    refine lv_iadd hx hb dL_law_918 ?_
    rw [show (nI i) + 1 = nI (i + 1) from nI_add i 1]
    refine va_sld hx hb hX hbl hbA hS (vp_in_nI (by omega) (by omega)) dL_law_919 ?_
    rw [show (nI (i + 1)).toNatClampNeg = i + 1 from nI_clamp (by omega)]
    refine lv_aload_n hx hb dL_law_920 rfl (lv_at hl 5 rfl) ?_
    refine lv_iload hx hb dL_law_921 (lv_at hl 1 rfl) ?_
    refine lv_iconst (v := 2) hx hb dL_law_923 (by decide) ?_
    refine lv_iadd hx hb dL_law_924 ?_
    rw [show (nI i) + 2 = nI (i + 2) from nI_add i 2]
    refine va_sld hx hb hX hbl hbA hS (vp_in_nI (by omega) (by omega)) dL_law_925 ?_
    rw [show (nI (i + 2)).toNatClampNeg = i + 2 from nI_clamp (by omega)]
    refine lv_aload_n hx hb dL_law_926 rfl (lv_at hl 5 rfl) ?_
    refine lv_iload hx hb dL_law_927 (lv_at hl 1 rfl) ?_
    refine lv_iconst (v := 3) hx hb dL_law_929 (by decide) ?_
    refine lv_iadd hx hb dL_law_930 ?_
    rw [show (nI i) + 3 = nI (i + 3) from nI_add i 3]
    refine va_sld hx hb hX hbl hbA hS (vp_in_nI (by omega) (by omega)) dL_law_931 ?_
    rw [show (nI (i + 3)).toNatClampNeg = i + 3 from nI_clamp (by omega)]
    refine g_MVi (As := [.int (xs (i + 1)), .int (xs (i + 2)), .int (xs (i + 3))]) (rest := []) ⟨hx, hb, hml, hown, hts⟩ (mt_X2_crosses_1 l dC dI cA H.size y0 q1 q2 q3 q4 q5 rn tv sf lf mn rf nf ct il gf (xs (i + 1)) (xs (i + 2)) (xs (i + 3)) hbad) (cwV 3 hts gL_law_X2_crosses rfl rfl rfl hdX2_crosses ⟨Nat.le_of_ble_eq_true rfl, Nat.le_of_ble_eq_true rfl⟩) hP hK hD hS hA [9, 10, 11, 12, 13, 14] (by decide) rfl (va_recv hK hP (ci := 2) (q0 := 9) rfl rfl) rfl hl.1 rfl (Nat.le_of_ble_eq_true rfl) dL_law_932 hc1 hs1 (fun u9 => [(x0, .inr (1, [.ref r0, .ref r1, .ref r2, .ref r3, .int (nI rn)])), (r0, .inr (0, [.ref a0, .int (nI L0.length)])), (a0, .inl (cA, (100, .inl f0))), (r1, .inr (0, [.ref a1, .int (nI L1.length)])), (a1, .inl (cA, (100, .inl f1))), (r2, .inr (0, [.ref a2, .int n2])), (a2, .inl (cA, (100, .inl f2))), (r3, .inr (0, [.ref a3, .int n3])), (a3, .inl (cA, (100, .inl f3))), (y0, .inr (2, [.int 1, .int (nI rn), .ref q1, .ref q2, .int mn, .ref q3, .ref q4, .int ct, .int il, .ref q5])), (q1, .inl (cA, (2, .inl sf))), (q2, .inl (cA, (60, .inl lf))), (q3, .inl (cA, (320, .inl rf))), (q4, .inl (cA, (320, .inl nf))), (q5, .inl (cA, (6, .inl gf))), (o, .inl (cL, (1, .inr (.inl fo))))]) (fun _ => rfl) (fun _ => rfl) (fun u H locs hw_2 hP hD hS => ?_)
    have hw_2 : True := hw_2
    have hP : va_P (dC, dI) vwCl [(x0, .inr (1, [.ref r0, .ref r1, .ref r2, .ref r3, .int (nI rn)])), (r0, .inr (0, [.ref a0, .int (nI L0.length)])), (a0, .inl (cA, (100, .inl f0))), (r1, .inr (0, [.ref a1, .int (nI L1.length)])), (a1, .inl (cA, (100, .inl f1))), (r2, .inr (0, [.ref a2, .int n2])), (a2, .inl (cA, (100, .inl f2))), (r3, .inr (0, [.ref a3, .int n3])), (a3, .inl (cA, (100, .inl f3))), (y0, .inr (2, [.int 1, .int (nI rn), .ref q1, .ref q2, .int mn, .ref q3, .ref q4, .int ct, .int il, .ref q5])), (q1, .inl (cA, (2, .inl sf))), (q2, .inl (cA, (60, .inl lf))), (q3, .inl (cA, (320, .inl rf))), (q4, .inl (cA, (320, .inl nf))), (q5, .inl (cA, (6, .inl gf))), (o, .inl (cL, (1, .inr (.inl fo))))] H := hP
    have hD : va_D A [(x0, .inr (1, [.ref r0, .ref r1, .ref r2, .ref r3, .int (nI rn)])), (r0, .inr (0, [.ref a0, .int (nI L0.length)])), (a0, .inl (cA, (100, .inl f0))), (r1, .inr (0, [.ref a1, .int (nI L1.length)])), (a1, .inl (cA, (100, .inl f1))), (r2, .inr (0, [.ref a2, .int n2])), (a2, .inl (cA, (100, .inl f2))), (r3, .inr (0, [.ref a3, .int n3])), (a3, .inl (cA, (100, .inl f3))), (y0, .inr (2, [.int 1, .int (nI rn), .ref q1, .ref q2, .int mn, .ref q3, .ref q4, .int ct, .int il, .ref q5])), (q1, .inl (cA, (2, .inl sf))), (q2, .inl (cA, (60, .inl lf))), (q3, .inl (cA, (320, .inl rf))), (q4, .inl (cA, (320, .inl nf))), (q5, .inl (cA, (6, .inl gf))), (o, .inl (cL, (1, .inr (.inl fo))))] := hD
    refine lv_istore (lv' := [(6, .int 0), (5, .int 1), (4, .int (nI i)), (3, .ref o), (2, .ref y0), (1, .ref x0), (0, .ref b)]) hx hb dL_law_935 hl (by decide) rfl (fun ls hl => ?_)
    refine lv_aload_n hx hb dL_law_937 rfl (lv_at hl 4 rfl) ?_
    refine g_RVi (As := []) (rest := []) ⟨hx, hb, hml, hown, hts⟩ (mt_X2_thrown l dC dI cA H.size y0 q1 q2 q3 q4 q5 rn 1 sf lf mn rf nf ct il gf) (cwV 0 hts gL_law_X2_thrown rfl rfl rfl hdX2_thrown ⟨Nat.le_of_ble_eq_true rfl, Nat.le_of_ble_eq_true rfl⟩) hP hK hD [9, 10, 11, 12, 13, 14] (by decide) rfl (va_recv hK hP (ci := 2) (q0 := 9) rfl rfl) rfl hl.1 rfl (Nat.le_of_ble_eq_true rfl) dL_law_938 hc1 hs1 ?_
    refine lv_iload hx hb dL_law_941 (lv_at hl 1 rfl) ?_
    refine lv_icmp_eq (tgt := 948) hx hb dL_law_943 (by decide) (fun c943 => ?_) (fun c943 => ?_)
    · refine lv_iload hx hb dL_law_948 (lv_at hl 1 rfl) ?_
      refine lv_if_ne (tgt := 965) hx hb dL_law_950 (by decide) (fun c950 => ?_) (fun c950 => ?_)
      · have c950 : ¬ 1 = 0 := g_neT 1 0 (by omega) (by omega) c950
        refine lv_goto (tgt := 1241) hx hb dL_law_965 (by decide) ?_
        exact kk rn L0 L1 _ _ _ _ _ ⟨f0, f1, n2, f2, n3, f3, 1, sf, lf, mn, rf, nf, ct, il, gf, fo, hP, hD, hS, hR0, hR1, hl0, hl1, hrn, hr6, hk0, hk1, hW⟩ (by omega) (by omega) (lv_sub hl [2, 3, 4, 5, 6] rfl)
      · exact absurd c950 (by decide)
    · exact absurd (by decide) c943
  · rcases pk_ix (xs (i + 2)) (n := rn) (by omega) with hbad | hbad | ⟨ra, hra, h2⟩
    · refine lv_aload_n hx hb dL_law_888 rfl (lv_at hl 3 rfl) ?_
      refine lv_aload_n hx hb dL_law_889 rfl (lv_at hl 4 rfl) ?_
      refine lv_iload hx hb dL_law_890 (lv_at hl 0 rfl) ?_
      refine lv_iconst (v := 1) hx hb dL_law_892 (by decide) ?_
      refine lv_iadd hx hb dL_law_893 ?_
      rw [show (nI i) + 1 = nI (i + 1) from nI_add i 1]
      refine va_sld hx hb hX hbl hbA hS (vp_in_nI (by omega) (by omega)) dL_law_894 ?_
      rw [show (nI (i + 1)).toNatClampNeg = i + 1 from nI_clamp (by omega)]
      rw [h1]
      refine lv_aload_n hx hb dL_law_895 rfl (lv_at hl 4 rfl) ?_
      refine lv_iload hx hb dL_law_896 (lv_at hl 0 rfl) ?_
      refine lv_iconst (v := 2) hx hb dL_law_898 (by decide) ?_
      refine lv_iadd hx hb dL_law_899 ?_
      rw [show (nI i) + 2 = nI (i + 2) from nI_add i 2]
      refine va_sld hx hb hX hbl hbA hS (vp_in_nI (by omega) (by omega)) dL_law_900 ?_
      rw [show (nI (i + 2)).toNatClampNeg = i + 2 from nI_clamp (by omega)]
      refine lv_aload_n hx hb dL_law_901 rfl (lv_at hl 4 rfl) ?_
      refine lv_iload hx hb dL_law_902 (lv_at hl 0 rfl) ?_
      refine lv_iconst (v := 3) hx hb dL_law_904 (by decide) ?_
      refine lv_iadd hx hb dL_law_905 ?_
      rw [show (nI i) + 3 = nI (i + 3) from nI_add i 3]
      refine va_sld hx hb hX hbl hbA hS (vp_in_nI (by omega) (by omega)) dL_law_906 ?_
      rw [show (nI (i + 3)).toNatClampNeg = i + 3 from nI_clamp (by omega)]
      refine lv_aload_n hx hb dL_law_907 rfl (lv_at hl 1 rfl) ?_
      refine g_LS (As := [.ref x0, .int (nI 0), .int (xs (i + 2)), .int (xs (i + 3)), .ref o]) (rest := []) ⟨hx, hb, hml, hown, hts⟩ (mt_L_crosses_1b_0 l htr dC dI cA cL H.size x0 r0 r1 r2 r3 rn (xs (i + 2)) (xs (i + 3)) o fo (Or.inl hbad)) (vx_cwSW 5 hts gL_law_L_crosses rfl rfl rfl hdL_crosses ⟨Nat.le_of_ble_eq_true rfl, Nat.le_of_ble_eq_true rfl⟩) hP hKl hD hS hA hZ [0, 15] (by decide) rfl rfl hl.1 rfl (Nat.le_of_ble_eq_true rfl) dL_law_908 hc1 hs1 (fun u9 => [(x0, .inr (1, [.ref r0, .ref r1, .ref r2, .ref r3, .int (nI rn)])), (r0, .inr (0, [.ref a0, .int (nI L0.length)])), (a0, .inl (cA, (100, .inl f0))), (r1, .inr (0, [.ref a1, .int (nI L1.length)])), (a1, .inl (cA, (100, .inl f1))), (r2, .inr (0, [.ref a2, .int n2])), (a2, .inl (cA, (100, .inl f2))), (r3, .inr (0, [.ref a3, .int n3])), (a3, .inl (cA, (100, .inl f3))), (y0, .inr (2, [.int tv, .int (nI rn), .ref q1, .ref q2, .int mn, .ref q3, .ref q4, .int ct, .int il, .ref q5])), (q1, .inl (cA, (2, .inl sf))), (q2, .inl (cA, (60, .inl lf))), (q3, .inl (cA, (320, .inl rf))), (q4, .inl (cA, (320, .inl nf))), (q5, .inl (cA, (6, .inl gf))), (o, .inl (cL, (1, .inr (.inl fo))))]) (fun _ => rfl) (fun _ => rfl) (fun u H locs hw_1 hP hD hS => ?_)
      have hP : va_P (dC, dI) vwCl [(x0, .inr (1, [.ref r0, .ref r1, .ref r2, .ref r3, .int (nI rn)])), (r0, .inr (0, [.ref a0, .int (nI L0.length)])), (a0, .inl (cA, (100, .inl f0))), (r1, .inr (0, [.ref a1, .int (nI L1.length)])), (a1, .inl (cA, (100, .inl f1))), (r2, .inr (0, [.ref a2, .int n2])), (a2, .inl (cA, (100, .inl f2))), (r3, .inr (0, [.ref a3, .int n3])), (a3, .inl (cA, (100, .inl f3))), (y0, .inr (2, [.int tv, .int (nI rn), .ref q1, .ref q2, .int mn, .ref q3, .ref q4, .int ct, .int il, .ref q5])), (q1, .inl (cA, (2, .inl sf))), (q2, .inl (cA, (60, .inl lf))), (q3, .inl (cA, (320, .inl rf))), (q4, .inl (cA, (320, .inl nf))), (q5, .inl (cA, (6, .inl gf))), (o, .inl (cL, (1, .inr (.inl fo))))] H := hP
      have hD : va_D A [(x0, .inr (1, [.ref r0, .ref r1, .ref r2, .ref r3, .int (nI rn)])), (r0, .inr (0, [.ref a0, .int (nI L0.length)])), (a0, .inl (cA, (100, .inl f0))), (r1, .inr (0, [.ref a1, .int (nI L1.length)])), (a1, .inl (cA, (100, .inl f1))), (r2, .inr (0, [.ref a2, .int n2])), (a2, .inl (cA, (100, .inl f2))), (r3, .inr (0, [.ref a3, .int n3])), (a3, .inl (cA, (100, .inl f3))), (y0, .inr (2, [.int tv, .int (nI rn), .ref q1, .ref q2, .int mn, .ref q3, .ref q4, .int ct, .int il, .ref q5])), (q1, .inl (cA, (2, .inl sf))), (q2, .inl (cA, (60, .inl lf))), (q3, .inl (cA, (320, .inl rf))), (q4, .inl (cA, (320, .inl nf))), (q5, .inl (cA, (6, .inl gf))), (o, .inl (cL, (1, .inr (.inl fo))))] := hD
      refine lv_istore (lv' := [(5, .int 1), (4, .int (nI i)), (3, .ref o), (2, .ref y0), (1, .ref x0), (0, .ref b)]) hx hb dL_law_911 hl (by decide) rfl (fun ls hl => ?_)
      refine lv_aload_n hx hb dL_law_913 rfl (lv_at hl 3 rfl) ?_
      refine lv_aload_n hx hb dL_law_914 rfl (lv_at hl 5 rfl) ?_
      refine lv_iload hx hb dL_law_915 (lv_at hl 1 rfl) ?_
      refine lv_iconst (v := 1) hx hb dL_law_917 (by decide) ?_
      refine lv_iadd hx hb dL_law_918 ?_
      rw [show (nI i) + 1 = nI (i + 1) from nI_add i 1]
      refine va_sld hx hb hX hbl hbA hS (vp_in_nI (by omega) (by omega)) dL_law_919 ?_
      rw [show (nI (i + 1)).toNatClampNeg = i + 1 from nI_clamp (by omega)]
      rw [h1]
      refine lv_aload_n hx hb dL_law_920 rfl (lv_at hl 5 rfl) ?_
      refine lv_iload hx hb dL_law_921 (lv_at hl 1 rfl) ?_
      refine lv_iconst (v := 2) hx hb dL_law_923 (by decide) ?_
      refine lv_iadd hx hb dL_law_924 ?_
      rw [show (nI i) + 2 = nI (i + 2) from nI_add i 2]
      refine va_sld hx hb hX hbl hbA hS (vp_in_nI (by omega) (by omega)) dL_law_925 ?_
      rw [show (nI (i + 2)).toNatClampNeg = i + 2 from nI_clamp (by omega)]
      refine lv_aload_n hx hb dL_law_926 rfl (lv_at hl 5 rfl) ?_
      refine lv_iload hx hb dL_law_927 (lv_at hl 1 rfl) ?_
      refine lv_iconst (v := 3) hx hb dL_law_929 (by decide) ?_
      refine lv_iadd hx hb dL_law_930 ?_
      rw [show (nI i) + 3 = nI (i + 3) from nI_add i 3]
      refine va_sld hx hb hX hbl hbA hS (vp_in_nI (by omega) (by omega)) dL_law_931 ?_
      rw [show (nI (i + 3)).toNatClampNeg = i + 3 from nI_clamp (by omega)]
      refine g_MVi (As := [.int (nI 0), .int (xs (i + 2)), .int (xs (i + 3))]) (rest := []) ⟨hx, hb, hml, hown, hts⟩ (mt_X2_crosses_1b l dC dI cA H.size y0 q1 q2 q3 q4 q5 rn tv sf lf mn rf nf ct il gf 0 (xs (i + 2)) (xs (i + 3)) (by omega) hr6 (Or.inl hbad)) (cwV 3 hts gL_law_X2_crosses rfl rfl rfl hdX2_crosses ⟨Nat.le_of_ble_eq_true rfl, Nat.le_of_ble_eq_true rfl⟩) hP hK hD hS hA [9, 10, 11, 12, 13, 14] (by decide) rfl (va_recv hK hP (ci := 2) (q0 := 9) rfl rfl) rfl hl.1 rfl (Nat.le_of_ble_eq_true rfl) dL_law_932 hc1 hs1 (fun u9 => [(x0, .inr (1, [.ref r0, .ref r1, .ref r2, .ref r3, .int (nI rn)])), (r0, .inr (0, [.ref a0, .int (nI L0.length)])), (a0, .inl (cA, (100, .inl f0))), (r1, .inr (0, [.ref a1, .int (nI L1.length)])), (a1, .inl (cA, (100, .inl f1))), (r2, .inr (0, [.ref a2, .int n2])), (a2, .inl (cA, (100, .inl f2))), (r3, .inr (0, [.ref a3, .int n3])), (a3, .inl (cA, (100, .inl f3))), (y0, .inr (2, [.int 1, .int (nI rn), .ref q1, .ref q2, .int mn, .ref q3, .ref q4, .int ct, .int il, .ref q5])), (q1, .inl (cA, (2, .inl sf))), (q2, .inl (cA, (60, .inl lf))), (q3, .inl (cA, (320, .inl rf))), (q4, .inl (cA, (320, .inl nf))), (q5, .inl (cA, (6, .inl gf))), (o, .inl (cL, (1, .inr (.inl fo))))]) (fun _ => rfl) (fun _ => rfl) (fun u H locs hw_2 hP hD hS => ?_)
      have hw_2 : True := hw_2
      have hP : va_P (dC, dI) vwCl [(x0, .inr (1, [.ref r0, .ref r1, .ref r2, .ref r3, .int (nI rn)])), (r0, .inr (0, [.ref a0, .int (nI L0.length)])), (a0, .inl (cA, (100, .inl f0))), (r1, .inr (0, [.ref a1, .int (nI L1.length)])), (a1, .inl (cA, (100, .inl f1))), (r2, .inr (0, [.ref a2, .int n2])), (a2, .inl (cA, (100, .inl f2))), (r3, .inr (0, [.ref a3, .int n3])), (a3, .inl (cA, (100, .inl f3))), (y0, .inr (2, [.int 1, .int (nI rn), .ref q1, .ref q2, .int mn, .ref q3, .ref q4, .int ct, .int il, .ref q5])), (q1, .inl (cA, (2, .inl sf))), (q2, .inl (cA, (60, .inl lf))), (q3, .inl (cA, (320, .inl rf))), (q4, .inl (cA, (320, .inl nf))), (q5, .inl (cA, (6, .inl gf))), (o, .inl (cL, (1, .inr (.inl fo))))] H := hP
      have hD : va_D A [(x0, .inr (1, [.ref r0, .ref r1, .ref r2, .ref r3, .int (nI rn)])), (r0, .inr (0, [.ref a0, .int (nI L0.length)])), (a0, .inl (cA, (100, .inl f0))), (r1, .inr (0, [.ref a1, .int (nI L1.length)])), (a1, .inl (cA, (100, .inl f1))), (r2, .inr (0, [.ref a2, .int n2])), (a2, .inl (cA, (100, .inl f2))), (r3, .inr (0, [.ref a3, .int n3])), (a3, .inl (cA, (100, .inl f3))), (y0, .inr (2, [.int 1, .int (nI rn), .ref q1, .ref q2, .int mn, .ref q3, .ref q4, .int ct, .int il, .ref q5])), (q1, .inl (cA, (2, .inl sf))), (q2, .inl (cA, (60, .inl lf))), (q3, .inl (cA, (320, .inl rf))), (q4, .inl (cA, (320, .inl nf))), (q5, .inl (cA, (6, .inl gf))), (o, .inl (cL, (1, .inr (.inl fo))))] := hD
      refine lv_istore (lv' := [(6, .int 0), (5, .int 1), (4, .int (nI i)), (3, .ref o), (2, .ref y0), (1, .ref x0), (0, .ref b)]) hx hb dL_law_935 hl (by decide) rfl (fun ls hl => ?_)
      refine lv_aload_n hx hb dL_law_937 rfl (lv_at hl 4 rfl) ?_
      refine g_RVi (As := []) (rest := []) ⟨hx, hb, hml, hown, hts⟩ (mt_X2_thrown l dC dI cA H.size y0 q1 q2 q3 q4 q5 rn 1 sf lf mn rf nf ct il gf) (cwV 0 hts gL_law_X2_thrown rfl rfl rfl hdX2_thrown ⟨Nat.le_of_ble_eq_true rfl, Nat.le_of_ble_eq_true rfl⟩) hP hK hD [9, 10, 11, 12, 13, 14] (by decide) rfl (va_recv hK hP (ci := 2) (q0 := 9) rfl rfl) rfl hl.1 rfl (Nat.le_of_ble_eq_true rfl) dL_law_938 hc1 hs1 ?_
      refine lv_iload hx hb dL_law_941 (lv_at hl 1 rfl) ?_
      refine lv_icmp_eq (tgt := 948) hx hb dL_law_943 (by decide) (fun c943 => ?_) (fun c943 => ?_)
      · refine lv_iload hx hb dL_law_948 (lv_at hl 1 rfl) ?_
        refine lv_if_ne (tgt := 965) hx hb dL_law_950 (by decide) (fun c950 => ?_) (fun c950 => ?_)
        · have c950 : ¬ 1 = 0 := g_neT 1 0 (by omega) (by omega) c950
          refine lv_goto (tgt := 1241) hx hb dL_law_965 (by decide) ?_
          exact kk rn L0 L1 _ _ _ _ _ ⟨f0, f1, n2, f2, n3, f3, 1, sf, lf, mn, rf, nf, ct, il, gf, fo, hP, hD, hS, hR0, hR1, hl0, hl1, hrn, hr6, hk0, hk1, hW⟩ (by omega) (by omega) (lv_sub hl [2, 3, 4, 5, 6] rfl)
        · exact absurd c950 (by decide)
      · exact absurd (by decide) c943
    · refine lv_aload_n hx hb dL_law_888 rfl (lv_at hl 3 rfl) ?_
      refine lv_aload_n hx hb dL_law_889 rfl (lv_at hl 4 rfl) ?_
      refine lv_iload hx hb dL_law_890 (lv_at hl 0 rfl) ?_
      refine lv_iconst (v := 1) hx hb dL_law_892 (by decide) ?_
      refine lv_iadd hx hb dL_law_893 ?_
      rw [show (nI i) + 1 = nI (i + 1) from nI_add i 1]
      refine va_sld hx hb hX hbl hbA hS (vp_in_nI (by omega) (by omega)) dL_law_894 ?_
      rw [show (nI (i + 1)).toNatClampNeg = i + 1 from nI_clamp (by omega)]
      rw [h1]
      refine lv_aload_n hx hb dL_law_895 rfl (lv_at hl 4 rfl) ?_
      refine lv_iload hx hb dL_law_896 (lv_at hl 0 rfl) ?_
      refine lv_iconst (v := 2) hx hb dL_law_898 (by decide) ?_
      refine lv_iadd hx hb dL_law_899 ?_
      rw [show (nI i) + 2 = nI (i + 2) from nI_add i 2]
      refine va_sld hx hb hX hbl hbA hS (vp_in_nI (by omega) (by omega)) dL_law_900 ?_
      rw [show (nI (i + 2)).toNatClampNeg = i + 2 from nI_clamp (by omega)]
      refine lv_aload_n hx hb dL_law_901 rfl (lv_at hl 4 rfl) ?_
      refine lv_iload hx hb dL_law_902 (lv_at hl 0 rfl) ?_
      refine lv_iconst (v := 3) hx hb dL_law_904 (by decide) ?_
      refine lv_iadd hx hb dL_law_905 ?_
      rw [show (nI i) + 3 = nI (i + 3) from nI_add i 3]
      refine va_sld hx hb hX hbl hbA hS (vp_in_nI (by omega) (by omega)) dL_law_906 ?_
      rw [show (nI (i + 3)).toNatClampNeg = i + 3 from nI_clamp (by omega)]
      refine lv_aload_n hx hb dL_law_907 rfl (lv_at hl 1 rfl) ?_
      refine g_LS (As := [.ref x0, .int (nI 0), .int (xs (i + 2)), .int (xs (i + 3)), .ref o]) (rest := []) ⟨hx, hb, hml, hown, hts⟩ (mt_L_crosses_1b_0 l htr dC dI cA cL H.size x0 r0 r1 r2 r3 rn (xs (i + 2)) (xs (i + 3)) o fo (Or.inr hbad)) (vx_cwSW 5 hts gL_law_L_crosses rfl rfl rfl hdL_crosses ⟨Nat.le_of_ble_eq_true rfl, Nat.le_of_ble_eq_true rfl⟩) hP hKl hD hS hA hZ [0, 15] (by decide) rfl rfl hl.1 rfl (Nat.le_of_ble_eq_true rfl) dL_law_908 hc1 hs1 (fun u9 => [(x0, .inr (1, [.ref r0, .ref r1, .ref r2, .ref r3, .int (nI rn)])), (r0, .inr (0, [.ref a0, .int (nI L0.length)])), (a0, .inl (cA, (100, .inl f0))), (r1, .inr (0, [.ref a1, .int (nI L1.length)])), (a1, .inl (cA, (100, .inl f1))), (r2, .inr (0, [.ref a2, .int n2])), (a2, .inl (cA, (100, .inl f2))), (r3, .inr (0, [.ref a3, .int n3])), (a3, .inl (cA, (100, .inl f3))), (y0, .inr (2, [.int tv, .int (nI rn), .ref q1, .ref q2, .int mn, .ref q3, .ref q4, .int ct, .int il, .ref q5])), (q1, .inl (cA, (2, .inl sf))), (q2, .inl (cA, (60, .inl lf))), (q3, .inl (cA, (320, .inl rf))), (q4, .inl (cA, (320, .inl nf))), (q5, .inl (cA, (6, .inl gf))), (o, .inl (cL, (1, .inr (.inl fo))))]) (fun _ => rfl) (fun _ => rfl) (fun u H locs hw_1 hP hD hS => ?_)
      have hP : va_P (dC, dI) vwCl [(x0, .inr (1, [.ref r0, .ref r1, .ref r2, .ref r3, .int (nI rn)])), (r0, .inr (0, [.ref a0, .int (nI L0.length)])), (a0, .inl (cA, (100, .inl f0))), (r1, .inr (0, [.ref a1, .int (nI L1.length)])), (a1, .inl (cA, (100, .inl f1))), (r2, .inr (0, [.ref a2, .int n2])), (a2, .inl (cA, (100, .inl f2))), (r3, .inr (0, [.ref a3, .int n3])), (a3, .inl (cA, (100, .inl f3))), (y0, .inr (2, [.int tv, .int (nI rn), .ref q1, .ref q2, .int mn, .ref q3, .ref q4, .int ct, .int il, .ref q5])), (q1, .inl (cA, (2, .inl sf))), (q2, .inl (cA, (60, .inl lf))), (q3, .inl (cA, (320, .inl rf))), (q4, .inl (cA, (320, .inl nf))), (q5, .inl (cA, (6, .inl gf))), (o, .inl (cL, (1, .inr (.inl fo))))] H := hP
      have hD : va_D A [(x0, .inr (1, [.ref r0, .ref r1, .ref r2, .ref r3, .int (nI rn)])), (r0, .inr (0, [.ref a0, .int (nI L0.length)])), (a0, .inl (cA, (100, .inl f0))), (r1, .inr (0, [.ref a1, .int (nI L1.length)])), (a1, .inl (cA, (100, .inl f1))), (r2, .inr (0, [.ref a2, .int n2])), (a2, .inl (cA, (100, .inl f2))), (r3, .inr (0, [.ref a3, .int n3])), (a3, .inl (cA, (100, .inl f3))), (y0, .inr (2, [.int tv, .int (nI rn), .ref q1, .ref q2, .int mn, .ref q3, .ref q4, .int ct, .int il, .ref q5])), (q1, .inl (cA, (2, .inl sf))), (q2, .inl (cA, (60, .inl lf))), (q3, .inl (cA, (320, .inl rf))), (q4, .inl (cA, (320, .inl nf))), (q5, .inl (cA, (6, .inl gf))), (o, .inl (cL, (1, .inr (.inl fo))))] := hD
      refine lv_istore (lv' := [(5, .int 1), (4, .int (nI i)), (3, .ref o), (2, .ref y0), (1, .ref x0), (0, .ref b)]) hx hb dL_law_911 hl (by decide) rfl (fun ls hl => ?_)
      refine lv_aload_n hx hb dL_law_913 rfl (lv_at hl 3 rfl) ?_
      refine lv_aload_n hx hb dL_law_914 rfl (lv_at hl 5 rfl) ?_
      refine lv_iload hx hb dL_law_915 (lv_at hl 1 rfl) ?_
      refine lv_iconst (v := 1) hx hb dL_law_917 (by decide) ?_
      refine lv_iadd hx hb dL_law_918 ?_
      rw [show (nI i) + 1 = nI (i + 1) from nI_add i 1]
      refine va_sld hx hb hX hbl hbA hS (vp_in_nI (by omega) (by omega)) dL_law_919 ?_
      rw [show (nI (i + 1)).toNatClampNeg = i + 1 from nI_clamp (by omega)]
      rw [h1]
      refine lv_aload_n hx hb dL_law_920 rfl (lv_at hl 5 rfl) ?_
      refine lv_iload hx hb dL_law_921 (lv_at hl 1 rfl) ?_
      refine lv_iconst (v := 2) hx hb dL_law_923 (by decide) ?_
      refine lv_iadd hx hb dL_law_924 ?_
      rw [show (nI i) + 2 = nI (i + 2) from nI_add i 2]
      refine va_sld hx hb hX hbl hbA hS (vp_in_nI (by omega) (by omega)) dL_law_925 ?_
      rw [show (nI (i + 2)).toNatClampNeg = i + 2 from nI_clamp (by omega)]
      refine lv_aload_n hx hb dL_law_926 rfl (lv_at hl 5 rfl) ?_
      refine lv_iload hx hb dL_law_927 (lv_at hl 1 rfl) ?_
      refine lv_iconst (v := 3) hx hb dL_law_929 (by decide) ?_
      refine lv_iadd hx hb dL_law_930 ?_
      rw [show (nI i) + 3 = nI (i + 3) from nI_add i 3]
      refine va_sld hx hb hX hbl hbA hS (vp_in_nI (by omega) (by omega)) dL_law_931 ?_
      rw [show (nI (i + 3)).toNatClampNeg = i + 3 from nI_clamp (by omega)]
      refine g_MVi (As := [.int (nI 0), .int (xs (i + 2)), .int (xs (i + 3))]) (rest := []) ⟨hx, hb, hml, hown, hts⟩ (mt_X2_crosses_1b l dC dI cA H.size y0 q1 q2 q3 q4 q5 rn tv sf lf mn rf nf ct il gf 0 (xs (i + 2)) (xs (i + 3)) (by omega) hr6 (Or.inr hbad)) (cwV 3 hts gL_law_X2_crosses rfl rfl rfl hdX2_crosses ⟨Nat.le_of_ble_eq_true rfl, Nat.le_of_ble_eq_true rfl⟩) hP hK hD hS hA [9, 10, 11, 12, 13, 14] (by decide) rfl (va_recv hK hP (ci := 2) (q0 := 9) rfl rfl) rfl hl.1 rfl (Nat.le_of_ble_eq_true rfl) dL_law_932 hc1 hs1 (fun u9 => [(x0, .inr (1, [.ref r0, .ref r1, .ref r2, .ref r3, .int (nI rn)])), (r0, .inr (0, [.ref a0, .int (nI L0.length)])), (a0, .inl (cA, (100, .inl f0))), (r1, .inr (0, [.ref a1, .int (nI L1.length)])), (a1, .inl (cA, (100, .inl f1))), (r2, .inr (0, [.ref a2, .int n2])), (a2, .inl (cA, (100, .inl f2))), (r3, .inr (0, [.ref a3, .int n3])), (a3, .inl (cA, (100, .inl f3))), (y0, .inr (2, [.int 1, .int (nI rn), .ref q1, .ref q2, .int mn, .ref q3, .ref q4, .int ct, .int il, .ref q5])), (q1, .inl (cA, (2, .inl sf))), (q2, .inl (cA, (60, .inl lf))), (q3, .inl (cA, (320, .inl rf))), (q4, .inl (cA, (320, .inl nf))), (q5, .inl (cA, (6, .inl gf))), (o, .inl (cL, (1, .inr (.inl fo))))]) (fun _ => rfl) (fun _ => rfl) (fun u H locs hw_2 hP hD hS => ?_)
      have hw_2 : True := hw_2
      have hP : va_P (dC, dI) vwCl [(x0, .inr (1, [.ref r0, .ref r1, .ref r2, .ref r3, .int (nI rn)])), (r0, .inr (0, [.ref a0, .int (nI L0.length)])), (a0, .inl (cA, (100, .inl f0))), (r1, .inr (0, [.ref a1, .int (nI L1.length)])), (a1, .inl (cA, (100, .inl f1))), (r2, .inr (0, [.ref a2, .int n2])), (a2, .inl (cA, (100, .inl f2))), (r3, .inr (0, [.ref a3, .int n3])), (a3, .inl (cA, (100, .inl f3))), (y0, .inr (2, [.int 1, .int (nI rn), .ref q1, .ref q2, .int mn, .ref q3, .ref q4, .int ct, .int il, .ref q5])), (q1, .inl (cA, (2, .inl sf))), (q2, .inl (cA, (60, .inl lf))), (q3, .inl (cA, (320, .inl rf))), (q4, .inl (cA, (320, .inl nf))), (q5, .inl (cA, (6, .inl gf))), (o, .inl (cL, (1, .inr (.inl fo))))] H := hP
      have hD : va_D A [(x0, .inr (1, [.ref r0, .ref r1, .ref r2, .ref r3, .int (nI rn)])), (r0, .inr (0, [.ref a0, .int (nI L0.length)])), (a0, .inl (cA, (100, .inl f0))), (r1, .inr (0, [.ref a1, .int (nI L1.length)])), (a1, .inl (cA, (100, .inl f1))), (r2, .inr (0, [.ref a2, .int n2])), (a2, .inl (cA, (100, .inl f2))), (r3, .inr (0, [.ref a3, .int n3])), (a3, .inl (cA, (100, .inl f3))), (y0, .inr (2, [.int 1, .int (nI rn), .ref q1, .ref q2, .int mn, .ref q3, .ref q4, .int ct, .int il, .ref q5])), (q1, .inl (cA, (2, .inl sf))), (q2, .inl (cA, (60, .inl lf))), (q3, .inl (cA, (320, .inl rf))), (q4, .inl (cA, (320, .inl nf))), (q5, .inl (cA, (6, .inl gf))), (o, .inl (cL, (1, .inr (.inl fo))))] := hD
      refine lv_istore (lv' := [(6, .int 0), (5, .int 1), (4, .int (nI i)), (3, .ref o), (2, .ref y0), (1, .ref x0), (0, .ref b)]) hx hb dL_law_935 hl (by decide) rfl (fun ls hl => ?_)
      refine lv_aload_n hx hb dL_law_937 rfl (lv_at hl 4 rfl) ?_
      refine g_RVi (As := []) (rest := []) ⟨hx, hb, hml, hown, hts⟩ (mt_X2_thrown l dC dI cA H.size y0 q1 q2 q3 q4 q5 rn 1 sf lf mn rf nf ct il gf) (cwV 0 hts gL_law_X2_thrown rfl rfl rfl hdX2_thrown ⟨Nat.le_of_ble_eq_true rfl, Nat.le_of_ble_eq_true rfl⟩) hP hK hD [9, 10, 11, 12, 13, 14] (by decide) rfl (va_recv hK hP (ci := 2) (q0 := 9) rfl rfl) rfl hl.1 rfl (Nat.le_of_ble_eq_true rfl) dL_law_938 hc1 hs1 ?_
      refine lv_iload hx hb dL_law_941 (lv_at hl 1 rfl) ?_
      refine lv_icmp_eq (tgt := 948) hx hb dL_law_943 (by decide) (fun c943 => ?_) (fun c943 => ?_)
      · refine lv_iload hx hb dL_law_948 (lv_at hl 1 rfl) ?_
        refine lv_if_ne (tgt := 965) hx hb dL_law_950 (by decide) (fun c950 => ?_) (fun c950 => ?_)
        · have c950 : ¬ 1 = 0 := g_neT 1 0 (by omega) (by omega) c950
          refine lv_goto (tgt := 1241) hx hb dL_law_965 (by decide) ?_
          exact kk rn L0 L1 _ _ _ _ _ ⟨f0, f1, n2, f2, n3, f3, 1, sf, lf, mn, rf, nf, ct, il, gf, fo, hP, hD, hS, hR0, hR1, hl0, hl1, hrn, hr6, hk0, hk1, hW⟩ (by omega) (by omega) (lv_sub hl [2, 3, 4, 5, 6] rfl)
        · exact absurd c950 (by decide)
      · exact absurd (by decide) c943
    · rcases pk_ix (xs (i + 3)) (n := rn) (by omega) with hbad | hbad | ⟨rb, hrb, h3⟩
      · refine lv_aload_n hx hb dL_law_888 rfl (lv_at hl 3 rfl) ?_
        refine lv_aload_n hx hb dL_law_889 rfl (lv_at hl 4 rfl) ?_
        refine lv_iload hx hb dL_law_890 (lv_at hl 0 rfl) ?_
        refine lv_iconst (v := 1) hx hb dL_law_892 (by decide) ?_
        refine lv_iadd hx hb dL_law_893 ?_
        rw [show (nI i) + 1 = nI (i + 1) from nI_add i 1]
        refine va_sld hx hb hX hbl hbA hS (vp_in_nI (by omega) (by omega)) dL_law_894 ?_
        rw [show (nI (i + 1)).toNatClampNeg = i + 1 from nI_clamp (by omega)]
        rw [h1]
        refine lv_aload_n hx hb dL_law_895 rfl (lv_at hl 4 rfl) ?_
        refine lv_iload hx hb dL_law_896 (lv_at hl 0 rfl) ?_
        refine lv_iconst (v := 2) hx hb dL_law_898 (by decide) ?_
        refine lv_iadd hx hb dL_law_899 ?_
        rw [show (nI i) + 2 = nI (i + 2) from nI_add i 2]
        refine va_sld hx hb hX hbl hbA hS (vp_in_nI (by omega) (by omega)) dL_law_900 ?_
        rw [show (nI (i + 2)).toNatClampNeg = i + 2 from nI_clamp (by omega)]
        rw [h2]
        refine lv_aload_n hx hb dL_law_901 rfl (lv_at hl 4 rfl) ?_
        refine lv_iload hx hb dL_law_902 (lv_at hl 0 rfl) ?_
        refine lv_iconst (v := 3) hx hb dL_law_904 (by decide) ?_
        refine lv_iadd hx hb dL_law_905 ?_
        rw [show (nI i) + 3 = nI (i + 3) from nI_add i 3]
        refine va_sld hx hb hX hbl hbA hS (vp_in_nI (by omega) (by omega)) dL_law_906 ?_
        rw [show (nI (i + 3)).toNatClampNeg = i + 3 from nI_clamp (by omega)]
        refine lv_aload_n hx hb dL_law_907 rfl (lv_at hl 1 rfl) ?_
        refine g_LS (As := [.ref x0, .int (nI 0), .int (nI ra), .int (xs (i + 3)), .ref o]) (rest := []) ⟨hx, hb, hml, hown, hts⟩ (mt_L_crosses_1c_0 l htr dC dI cA cL H.size x0 r0 r1 r2 r3 rn (nI ra) (xs (i + 3)) o fo (nI_pos (by omega)) (nI_lt hra (by omega)) (Or.inl hbad)) (vx_cwSW 5 hts gL_law_L_crosses rfl rfl rfl hdL_crosses ⟨Nat.le_of_ble_eq_true rfl, Nat.le_of_ble_eq_true rfl⟩) hP hKl hD hS hA hZ [0, 15] (by decide) rfl rfl hl.1 rfl (Nat.le_of_ble_eq_true rfl) dL_law_908 hc1 hs1 (fun u9 => [(x0, .inr (1, [.ref r0, .ref r1, .ref r2, .ref r3, .int (nI rn)])), (r0, .inr (0, [.ref a0, .int (nI L0.length)])), (a0, .inl (cA, (100, .inl f0))), (r1, .inr (0, [.ref a1, .int (nI L1.length)])), (a1, .inl (cA, (100, .inl f1))), (r2, .inr (0, [.ref a2, .int n2])), (a2, .inl (cA, (100, .inl f2))), (r3, .inr (0, [.ref a3, .int n3])), (a3, .inl (cA, (100, .inl f3))), (y0, .inr (2, [.int tv, .int (nI rn), .ref q1, .ref q2, .int mn, .ref q3, .ref q4, .int ct, .int il, .ref q5])), (q1, .inl (cA, (2, .inl sf))), (q2, .inl (cA, (60, .inl lf))), (q3, .inl (cA, (320, .inl rf))), (q4, .inl (cA, (320, .inl nf))), (q5, .inl (cA, (6, .inl gf))), (o, .inl (cL, (1, .inr (.inl fo))))]) (fun _ => rfl) (fun _ => rfl) (fun u H locs hw_1 hP hD hS => ?_)
        have hP : va_P (dC, dI) vwCl [(x0, .inr (1, [.ref r0, .ref r1, .ref r2, .ref r3, .int (nI rn)])), (r0, .inr (0, [.ref a0, .int (nI L0.length)])), (a0, .inl (cA, (100, .inl f0))), (r1, .inr (0, [.ref a1, .int (nI L1.length)])), (a1, .inl (cA, (100, .inl f1))), (r2, .inr (0, [.ref a2, .int n2])), (a2, .inl (cA, (100, .inl f2))), (r3, .inr (0, [.ref a3, .int n3])), (a3, .inl (cA, (100, .inl f3))), (y0, .inr (2, [.int tv, .int (nI rn), .ref q1, .ref q2, .int mn, .ref q3, .ref q4, .int ct, .int il, .ref q5])), (q1, .inl (cA, (2, .inl sf))), (q2, .inl (cA, (60, .inl lf))), (q3, .inl (cA, (320, .inl rf))), (q4, .inl (cA, (320, .inl nf))), (q5, .inl (cA, (6, .inl gf))), (o, .inl (cL, (1, .inr (.inl fo))))] H := hP
        have hD : va_D A [(x0, .inr (1, [.ref r0, .ref r1, .ref r2, .ref r3, .int (nI rn)])), (r0, .inr (0, [.ref a0, .int (nI L0.length)])), (a0, .inl (cA, (100, .inl f0))), (r1, .inr (0, [.ref a1, .int (nI L1.length)])), (a1, .inl (cA, (100, .inl f1))), (r2, .inr (0, [.ref a2, .int n2])), (a2, .inl (cA, (100, .inl f2))), (r3, .inr (0, [.ref a3, .int n3])), (a3, .inl (cA, (100, .inl f3))), (y0, .inr (2, [.int tv, .int (nI rn), .ref q1, .ref q2, .int mn, .ref q3, .ref q4, .int ct, .int il, .ref q5])), (q1, .inl (cA, (2, .inl sf))), (q2, .inl (cA, (60, .inl lf))), (q3, .inl (cA, (320, .inl rf))), (q4, .inl (cA, (320, .inl nf))), (q5, .inl (cA, (6, .inl gf))), (o, .inl (cL, (1, .inr (.inl fo))))] := hD
        refine lv_istore (lv' := [(5, .int 1), (4, .int (nI i)), (3, .ref o), (2, .ref y0), (1, .ref x0), (0, .ref b)]) hx hb dL_law_911 hl (by decide) rfl (fun ls hl => ?_)
        refine lv_aload_n hx hb dL_law_913 rfl (lv_at hl 3 rfl) ?_
        refine lv_aload_n hx hb dL_law_914 rfl (lv_at hl 5 rfl) ?_
        refine lv_iload hx hb dL_law_915 (lv_at hl 1 rfl) ?_
        refine lv_iconst (v := 1) hx hb dL_law_917 (by decide) ?_
        refine lv_iadd hx hb dL_law_918 ?_
        rw [show (nI i) + 1 = nI (i + 1) from nI_add i 1]
        refine va_sld hx hb hX hbl hbA hS (vp_in_nI (by omega) (by omega)) dL_law_919 ?_
        rw [show (nI (i + 1)).toNatClampNeg = i + 1 from nI_clamp (by omega)]
        rw [h1]
        refine lv_aload_n hx hb dL_law_920 rfl (lv_at hl 5 rfl) ?_
        refine lv_iload hx hb dL_law_921 (lv_at hl 1 rfl) ?_
        refine lv_iconst (v := 2) hx hb dL_law_923 (by decide) ?_
        refine lv_iadd hx hb dL_law_924 ?_
        rw [show (nI i) + 2 = nI (i + 2) from nI_add i 2]
        refine va_sld hx hb hX hbl hbA hS (vp_in_nI (by omega) (by omega)) dL_law_925 ?_
        rw [show (nI (i + 2)).toNatClampNeg = i + 2 from nI_clamp (by omega)]
        rw [h2]
        refine lv_aload_n hx hb dL_law_926 rfl (lv_at hl 5 rfl) ?_
        refine lv_iload hx hb dL_law_927 (lv_at hl 1 rfl) ?_
        refine lv_iconst (v := 3) hx hb dL_law_929 (by decide) ?_
        refine lv_iadd hx hb dL_law_930 ?_
        rw [show (nI i) + 3 = nI (i + 3) from nI_add i 3]
        refine va_sld hx hb hX hbl hbA hS (vp_in_nI (by omega) (by omega)) dL_law_931 ?_
        rw [show (nI (i + 3)).toNatClampNeg = i + 3 from nI_clamp (by omega)]
        refine g_MVi (As := [.int (nI 0), .int (nI ra), .int (xs (i + 3))]) (rest := []) ⟨hx, hb, hml, hown, hts⟩ (mt_X2_crosses_1c l dC dI cA H.size y0 q1 q2 q3 q4 q5 rn tv sf lf mn rf nf ct il gf 0 ra (xs (i + 3)) (by omega) hr6 hra (Or.inl hbad)) (cwV 3 hts gL_law_X2_crosses rfl rfl rfl hdX2_crosses ⟨Nat.le_of_ble_eq_true rfl, Nat.le_of_ble_eq_true rfl⟩) hP hK hD hS hA [9, 10, 11, 12, 13, 14] (by decide) rfl (va_recv hK hP (ci := 2) (q0 := 9) rfl rfl) rfl hl.1 rfl (Nat.le_of_ble_eq_true rfl) dL_law_932 hc1 hs1 (fun u9 => [(x0, .inr (1, [.ref r0, .ref r1, .ref r2, .ref r3, .int (nI rn)])), (r0, .inr (0, [.ref a0, .int (nI L0.length)])), (a0, .inl (cA, (100, .inl f0))), (r1, .inr (0, [.ref a1, .int (nI L1.length)])), (a1, .inl (cA, (100, .inl f1))), (r2, .inr (0, [.ref a2, .int n2])), (a2, .inl (cA, (100, .inl f2))), (r3, .inr (0, [.ref a3, .int n3])), (a3, .inl (cA, (100, .inl f3))), (y0, .inr (2, [.int 1, .int (nI rn), .ref q1, .ref q2, .int mn, .ref q3, .ref q4, .int ct, .int il, .ref q5])), (q1, .inl (cA, (2, .inl sf))), (q2, .inl (cA, (60, .inl lf))), (q3, .inl (cA, (320, .inl rf))), (q4, .inl (cA, (320, .inl nf))), (q5, .inl (cA, (6, .inl gf))), (o, .inl (cL, (1, .inr (.inl fo))))]) (fun _ => rfl) (fun _ => rfl) (fun u H locs hw_2 hP hD hS => ?_)
        have hw_2 : True := hw_2
        have hP : va_P (dC, dI) vwCl [(x0, .inr (1, [.ref r0, .ref r1, .ref r2, .ref r3, .int (nI rn)])), (r0, .inr (0, [.ref a0, .int (nI L0.length)])), (a0, .inl (cA, (100, .inl f0))), (r1, .inr (0, [.ref a1, .int (nI L1.length)])), (a1, .inl (cA, (100, .inl f1))), (r2, .inr (0, [.ref a2, .int n2])), (a2, .inl (cA, (100, .inl f2))), (r3, .inr (0, [.ref a3, .int n3])), (a3, .inl (cA, (100, .inl f3))), (y0, .inr (2, [.int 1, .int (nI rn), .ref q1, .ref q2, .int mn, .ref q3, .ref q4, .int ct, .int il, .ref q5])), (q1, .inl (cA, (2, .inl sf))), (q2, .inl (cA, (60, .inl lf))), (q3, .inl (cA, (320, .inl rf))), (q4, .inl (cA, (320, .inl nf))), (q5, .inl (cA, (6, .inl gf))), (o, .inl (cL, (1, .inr (.inl fo))))] H := hP
        have hD : va_D A [(x0, .inr (1, [.ref r0, .ref r1, .ref r2, .ref r3, .int (nI rn)])), (r0, .inr (0, [.ref a0, .int (nI L0.length)])), (a0, .inl (cA, (100, .inl f0))), (r1, .inr (0, [.ref a1, .int (nI L1.length)])), (a1, .inl (cA, (100, .inl f1))), (r2, .inr (0, [.ref a2, .int n2])), (a2, .inl (cA, (100, .inl f2))), (r3, .inr (0, [.ref a3, .int n3])), (a3, .inl (cA, (100, .inl f3))), (y0, .inr (2, [.int 1, .int (nI rn), .ref q1, .ref q2, .int mn, .ref q3, .ref q4, .int ct, .int il, .ref q5])), (q1, .inl (cA, (2, .inl sf))), (q2, .inl (cA, (60, .inl lf))), (q3, .inl (cA, (320, .inl rf))), (q4, .inl (cA, (320, .inl nf))), (q5, .inl (cA, (6, .inl gf))), (o, .inl (cL, (1, .inr (.inl fo))))] := hD
        refine lv_istore (lv' := [(6, .int 0), (5, .int 1), (4, .int (nI i)), (3, .ref o), (2, .ref y0), (1, .ref x0), (0, .ref b)]) hx hb dL_law_935 hl (by decide) rfl (fun ls hl => ?_)
        refine lv_aload_n hx hb dL_law_937 rfl (lv_at hl 4 rfl) ?_
        refine g_RVi (As := []) (rest := []) ⟨hx, hb, hml, hown, hts⟩ (mt_X2_thrown l dC dI cA H.size y0 q1 q2 q3 q4 q5 rn 1 sf lf mn rf nf ct il gf) (cwV 0 hts gL_law_X2_thrown rfl rfl rfl hdX2_thrown ⟨Nat.le_of_ble_eq_true rfl, Nat.le_of_ble_eq_true rfl⟩) hP hK hD [9, 10, 11, 12, 13, 14] (by decide) rfl (va_recv hK hP (ci := 2) (q0 := 9) rfl rfl) rfl hl.1 rfl (Nat.le_of_ble_eq_true rfl) dL_law_938 hc1 hs1 ?_
        refine lv_iload hx hb dL_law_941 (lv_at hl 1 rfl) ?_
        refine lv_icmp_eq (tgt := 948) hx hb dL_law_943 (by decide) (fun c943 => ?_) (fun c943 => ?_)
        · refine lv_iload hx hb dL_law_948 (lv_at hl 1 rfl) ?_
          refine lv_if_ne (tgt := 965) hx hb dL_law_950 (by decide) (fun c950 => ?_) (fun c950 => ?_)
          · have c950 : ¬ 1 = 0 := g_neT 1 0 (by omega) (by omega) c950
            refine lv_goto (tgt := 1241) hx hb dL_law_965 (by decide) ?_
            exact kk rn L0 L1 _ _ _ _ _ ⟨f0, f1, n2, f2, n3, f3, 1, sf, lf, mn, rf, nf, ct, il, gf, fo, hP, hD, hS, hR0, hR1, hl0, hl1, hrn, hr6, hk0, hk1, hW⟩ (by omega) (by omega) (lv_sub hl [2, 3, 4, 5, 6] rfl)
          · exact absurd c950 (by decide)
        · exact absurd (by decide) c943
      · refine lv_aload_n hx hb dL_law_888 rfl (lv_at hl 3 rfl) ?_
        refine lv_aload_n hx hb dL_law_889 rfl (lv_at hl 4 rfl) ?_
        refine lv_iload hx hb dL_law_890 (lv_at hl 0 rfl) ?_
        refine lv_iconst (v := 1) hx hb dL_law_892 (by decide) ?_
        refine lv_iadd hx hb dL_law_893 ?_
        rw [show (nI i) + 1 = nI (i + 1) from nI_add i 1]
        refine va_sld hx hb hX hbl hbA hS (vp_in_nI (by omega) (by omega)) dL_law_894 ?_
        rw [show (nI (i + 1)).toNatClampNeg = i + 1 from nI_clamp (by omega)]
        rw [h1]
        refine lv_aload_n hx hb dL_law_895 rfl (lv_at hl 4 rfl) ?_
        refine lv_iload hx hb dL_law_896 (lv_at hl 0 rfl) ?_
        refine lv_iconst (v := 2) hx hb dL_law_898 (by decide) ?_
        refine lv_iadd hx hb dL_law_899 ?_
        rw [show (nI i) + 2 = nI (i + 2) from nI_add i 2]
        refine va_sld hx hb hX hbl hbA hS (vp_in_nI (by omega) (by omega)) dL_law_900 ?_
        rw [show (nI (i + 2)).toNatClampNeg = i + 2 from nI_clamp (by omega)]
        rw [h2]
        refine lv_aload_n hx hb dL_law_901 rfl (lv_at hl 4 rfl) ?_
        refine lv_iload hx hb dL_law_902 (lv_at hl 0 rfl) ?_
        refine lv_iconst (v := 3) hx hb dL_law_904 (by decide) ?_
        refine lv_iadd hx hb dL_law_905 ?_
        rw [show (nI i) + 3 = nI (i + 3) from nI_add i 3]
        refine va_sld hx hb hX hbl hbA hS (vp_in_nI (by omega) (by omega)) dL_law_906 ?_
        rw [show (nI (i + 3)).toNatClampNeg = i + 3 from nI_clamp (by omega)]
        refine lv_aload_n hx hb dL_law_907 rfl (lv_at hl 1 rfl) ?_
        refine g_LS (As := [.ref x0, .int (nI 0), .int (nI ra), .int (xs (i + 3)), .ref o]) (rest := []) ⟨hx, hb, hml, hown, hts⟩ (mt_L_crosses_1c_0 l htr dC dI cA cL H.size x0 r0 r1 r2 r3 rn (nI ra) (xs (i + 3)) o fo (nI_pos (by omega)) (nI_lt hra (by omega)) (Or.inr hbad)) (vx_cwSW 5 hts gL_law_L_crosses rfl rfl rfl hdL_crosses ⟨Nat.le_of_ble_eq_true rfl, Nat.le_of_ble_eq_true rfl⟩) hP hKl hD hS hA hZ [0, 15] (by decide) rfl rfl hl.1 rfl (Nat.le_of_ble_eq_true rfl) dL_law_908 hc1 hs1 (fun u9 => [(x0, .inr (1, [.ref r0, .ref r1, .ref r2, .ref r3, .int (nI rn)])), (r0, .inr (0, [.ref a0, .int (nI L0.length)])), (a0, .inl (cA, (100, .inl f0))), (r1, .inr (0, [.ref a1, .int (nI L1.length)])), (a1, .inl (cA, (100, .inl f1))), (r2, .inr (0, [.ref a2, .int n2])), (a2, .inl (cA, (100, .inl f2))), (r3, .inr (0, [.ref a3, .int n3])), (a3, .inl (cA, (100, .inl f3))), (y0, .inr (2, [.int tv, .int (nI rn), .ref q1, .ref q2, .int mn, .ref q3, .ref q4, .int ct, .int il, .ref q5])), (q1, .inl (cA, (2, .inl sf))), (q2, .inl (cA, (60, .inl lf))), (q3, .inl (cA, (320, .inl rf))), (q4, .inl (cA, (320, .inl nf))), (q5, .inl (cA, (6, .inl gf))), (o, .inl (cL, (1, .inr (.inl fo))))]) (fun _ => rfl) (fun _ => rfl) (fun u H locs hw_1 hP hD hS => ?_)
        have hP : va_P (dC, dI) vwCl [(x0, .inr (1, [.ref r0, .ref r1, .ref r2, .ref r3, .int (nI rn)])), (r0, .inr (0, [.ref a0, .int (nI L0.length)])), (a0, .inl (cA, (100, .inl f0))), (r1, .inr (0, [.ref a1, .int (nI L1.length)])), (a1, .inl (cA, (100, .inl f1))), (r2, .inr (0, [.ref a2, .int n2])), (a2, .inl (cA, (100, .inl f2))), (r3, .inr (0, [.ref a3, .int n3])), (a3, .inl (cA, (100, .inl f3))), (y0, .inr (2, [.int tv, .int (nI rn), .ref q1, .ref q2, .int mn, .ref q3, .ref q4, .int ct, .int il, .ref q5])), (q1, .inl (cA, (2, .inl sf))), (q2, .inl (cA, (60, .inl lf))), (q3, .inl (cA, (320, .inl rf))), (q4, .inl (cA, (320, .inl nf))), (q5, .inl (cA, (6, .inl gf))), (o, .inl (cL, (1, .inr (.inl fo))))] H := hP
        have hD : va_D A [(x0, .inr (1, [.ref r0, .ref r1, .ref r2, .ref r3, .int (nI rn)])), (r0, .inr (0, [.ref a0, .int (nI L0.length)])), (a0, .inl (cA, (100, .inl f0))), (r1, .inr (0, [.ref a1, .int (nI L1.length)])), (a1, .inl (cA, (100, .inl f1))), (r2, .inr (0, [.ref a2, .int n2])), (a2, .inl (cA, (100, .inl f2))), (r3, .inr (0, [.ref a3, .int n3])), (a3, .inl (cA, (100, .inl f3))), (y0, .inr (2, [.int tv, .int (nI rn), .ref q1, .ref q2, .int mn, .ref q3, .ref q4, .int ct, .int il, .ref q5])), (q1, .inl (cA, (2, .inl sf))), (q2, .inl (cA, (60, .inl lf))), (q3, .inl (cA, (320, .inl rf))), (q4, .inl (cA, (320, .inl nf))), (q5, .inl (cA, (6, .inl gf))), (o, .inl (cL, (1, .inr (.inl fo))))] := hD
        refine lv_istore (lv' := [(5, .int 1), (4, .int (nI i)), (3, .ref o), (2, .ref y0), (1, .ref x0), (0, .ref b)]) hx hb dL_law_911 hl (by decide) rfl (fun ls hl => ?_)
        refine lv_aload_n hx hb dL_law_913 rfl (lv_at hl 3 rfl) ?_
        refine lv_aload_n hx hb dL_law_914 rfl (lv_at hl 5 rfl) ?_
        refine lv_iload hx hb dL_law_915 (lv_at hl 1 rfl) ?_
        refine lv_iconst (v := 1) hx hb dL_law_917 (by decide) ?_
        refine lv_iadd hx hb dL_law_918 ?_
        rw [show (nI i) + 1 = nI (i + 1) from nI_add i 1]
        refine va_sld hx hb hX hbl hbA hS (vp_in_nI (by omega) (by omega)) dL_law_919 ?_
        rw [show (nI (i + 1)).toNatClampNeg = i + 1 from nI_clamp (by omega)]
        rw [h1]
        refine lv_aload_n hx hb dL_law_920 rfl (lv_at hl 5 rfl) ?_
        refine lv_iload hx hb dL_law_921 (lv_at hl 1 rfl) ?_
        refine lv_iconst (v := 2) hx hb dL_law_923 (by decide) ?_
        refine lv_iadd hx hb dL_law_924 ?_
        rw [show (nI i) + 2 = nI (i + 2) from nI_add i 2]
        refine va_sld hx hb hX hbl hbA hS (vp_in_nI (by omega) (by omega)) dL_law_925 ?_
        rw [show (nI (i + 2)).toNatClampNeg = i + 2 from nI_clamp (by omega)]
        rw [h2]
        refine lv_aload_n hx hb dL_law_926 rfl (lv_at hl 5 rfl) ?_
        refine lv_iload hx hb dL_law_927 (lv_at hl 1 rfl) ?_
        refine lv_iconst (v := 3) hx hb dL_law_929 (by decide) ?_
        refine lv_iadd hx hb dL_law_930 ?_
        rw [show (nI i) + 3 = nI (i + 3) from nI_add i 3]
        refine va_sld hx hb hX hbl hbA hS (vp_in_nI (by omega) (by omega)) dL_law_931 ?_
        rw [show (nI (i + 3)).toNatClampNeg = i + 3 from nI_clamp (by omega)]
        refine g_MVi (As := [.int (nI 0), .int (nI ra), .int (xs (i + 3))]) (rest := []) ⟨hx, hb, hml, hown, hts⟩ (mt_X2_crosses_1c l dC dI cA H.size y0 q1 q2 q3 q4 q5 rn tv sf lf mn rf nf ct il gf 0 ra (xs (i + 3)) (by omega) hr6 hra (Or.inr hbad)) (cwV 3 hts gL_law_X2_crosses rfl rfl rfl hdX2_crosses ⟨Nat.le_of_ble_eq_true rfl, Nat.le_of_ble_eq_true rfl⟩) hP hK hD hS hA [9, 10, 11, 12, 13, 14] (by decide) rfl (va_recv hK hP (ci := 2) (q0 := 9) rfl rfl) rfl hl.1 rfl (Nat.le_of_ble_eq_true rfl) dL_law_932 hc1 hs1 (fun u9 => [(x0, .inr (1, [.ref r0, .ref r1, .ref r2, .ref r3, .int (nI rn)])), (r0, .inr (0, [.ref a0, .int (nI L0.length)])), (a0, .inl (cA, (100, .inl f0))), (r1, .inr (0, [.ref a1, .int (nI L1.length)])), (a1, .inl (cA, (100, .inl f1))), (r2, .inr (0, [.ref a2, .int n2])), (a2, .inl (cA, (100, .inl f2))), (r3, .inr (0, [.ref a3, .int n3])), (a3, .inl (cA, (100, .inl f3))), (y0, .inr (2, [.int 1, .int (nI rn), .ref q1, .ref q2, .int mn, .ref q3, .ref q4, .int ct, .int il, .ref q5])), (q1, .inl (cA, (2, .inl sf))), (q2, .inl (cA, (60, .inl lf))), (q3, .inl (cA, (320, .inl rf))), (q4, .inl (cA, (320, .inl nf))), (q5, .inl (cA, (6, .inl gf))), (o, .inl (cL, (1, .inr (.inl fo))))]) (fun _ => rfl) (fun _ => rfl) (fun u H locs hw_2 hP hD hS => ?_)
        have hw_2 : True := hw_2
        have hP : va_P (dC, dI) vwCl [(x0, .inr (1, [.ref r0, .ref r1, .ref r2, .ref r3, .int (nI rn)])), (r0, .inr (0, [.ref a0, .int (nI L0.length)])), (a0, .inl (cA, (100, .inl f0))), (r1, .inr (0, [.ref a1, .int (nI L1.length)])), (a1, .inl (cA, (100, .inl f1))), (r2, .inr (0, [.ref a2, .int n2])), (a2, .inl (cA, (100, .inl f2))), (r3, .inr (0, [.ref a3, .int n3])), (a3, .inl (cA, (100, .inl f3))), (y0, .inr (2, [.int 1, .int (nI rn), .ref q1, .ref q2, .int mn, .ref q3, .ref q4, .int ct, .int il, .ref q5])), (q1, .inl (cA, (2, .inl sf))), (q2, .inl (cA, (60, .inl lf))), (q3, .inl (cA, (320, .inl rf))), (q4, .inl (cA, (320, .inl nf))), (q5, .inl (cA, (6, .inl gf))), (o, .inl (cL, (1, .inr (.inl fo))))] H := hP
        have hD : va_D A [(x0, .inr (1, [.ref r0, .ref r1, .ref r2, .ref r3, .int (nI rn)])), (r0, .inr (0, [.ref a0, .int (nI L0.length)])), (a0, .inl (cA, (100, .inl f0))), (r1, .inr (0, [.ref a1, .int (nI L1.length)])), (a1, .inl (cA, (100, .inl f1))), (r2, .inr (0, [.ref a2, .int n2])), (a2, .inl (cA, (100, .inl f2))), (r3, .inr (0, [.ref a3, .int n3])), (a3, .inl (cA, (100, .inl f3))), (y0, .inr (2, [.int 1, .int (nI rn), .ref q1, .ref q2, .int mn, .ref q3, .ref q4, .int ct, .int il, .ref q5])), (q1, .inl (cA, (2, .inl sf))), (q2, .inl (cA, (60, .inl lf))), (q3, .inl (cA, (320, .inl rf))), (q4, .inl (cA, (320, .inl nf))), (q5, .inl (cA, (6, .inl gf))), (o, .inl (cL, (1, .inr (.inl fo))))] := hD
        refine lv_istore (lv' := [(6, .int 0), (5, .int 1), (4, .int (nI i)), (3, .ref o), (2, .ref y0), (1, .ref x0), (0, .ref b)]) hx hb dL_law_935 hl (by decide) rfl (fun ls hl => ?_)
        refine lv_aload_n hx hb dL_law_937 rfl (lv_at hl 4 rfl) ?_
        refine g_RVi (As := []) (rest := []) ⟨hx, hb, hml, hown, hts⟩ (mt_X2_thrown l dC dI cA H.size y0 q1 q2 q3 q4 q5 rn 1 sf lf mn rf nf ct il gf) (cwV 0 hts gL_law_X2_thrown rfl rfl rfl hdX2_thrown ⟨Nat.le_of_ble_eq_true rfl, Nat.le_of_ble_eq_true rfl⟩) hP hK hD [9, 10, 11, 12, 13, 14] (by decide) rfl (va_recv hK hP (ci := 2) (q0 := 9) rfl rfl) rfl hl.1 rfl (Nat.le_of_ble_eq_true rfl) dL_law_938 hc1 hs1 ?_
        refine lv_iload hx hb dL_law_941 (lv_at hl 1 rfl) ?_
        refine lv_icmp_eq (tgt := 948) hx hb dL_law_943 (by decide) (fun c943 => ?_) (fun c943 => ?_)
        · refine lv_iload hx hb dL_law_948 (lv_at hl 1 rfl) ?_
          refine lv_if_ne (tgt := 965) hx hb dL_law_950 (by decide) (fun c950 => ?_) (fun c950 => ?_)
          · have c950 : ¬ 1 = 0 := g_neT 1 0 (by omega) (by omega) c950
            refine lv_goto (tgt := 1241) hx hb dL_law_965 (by decide) ?_
            exact kk rn L0 L1 _ _ _ _ _ ⟨f0, f1, n2, f2, n3, f3, 1, sf, lf, mn, rf, nf, ct, il, gf, fo, hP, hD, hS, hR0, hR1, hl0, hl1, hrn, hr6, hk0, hk1, hW⟩ (by omega) (by omega) (lv_sub hl [2, 3, 4, 5, 6] rfl)
          · exact absurd c950 (by decide)
        · exact absurd (by decide) c943
      · by_cases hab : ra = rb
        · subst hab
          refine lv_aload_n hx hb dL_law_888 rfl (lv_at hl 3 rfl) ?_
          refine lv_aload_n hx hb dL_law_889 rfl (lv_at hl 4 rfl) ?_
          refine lv_iload hx hb dL_law_890 (lv_at hl 0 rfl) ?_
          refine lv_iconst (v := 1) hx hb dL_law_892 (by decide) ?_
          refine lv_iadd hx hb dL_law_893 ?_
          rw [show (nI i) + 1 = nI (i + 1) from nI_add i 1]
          refine va_sld hx hb hX hbl hbA hS (vp_in_nI (by omega) (by omega)) dL_law_894 ?_
          rw [show (nI (i + 1)).toNatClampNeg = i + 1 from nI_clamp (by omega)]
          rw [h1]
          refine lv_aload_n hx hb dL_law_895 rfl (lv_at hl 4 rfl) ?_
          refine lv_iload hx hb dL_law_896 (lv_at hl 0 rfl) ?_
          refine lv_iconst (v := 2) hx hb dL_law_898 (by decide) ?_
          refine lv_iadd hx hb dL_law_899 ?_
          rw [show (nI i) + 2 = nI (i + 2) from nI_add i 2]
          refine va_sld hx hb hX hbl hbA hS (vp_in_nI (by omega) (by omega)) dL_law_900 ?_
          rw [show (nI (i + 2)).toNatClampNeg = i + 2 from nI_clamp (by omega)]
          rw [h2]
          refine lv_aload_n hx hb dL_law_901 rfl (lv_at hl 4 rfl) ?_
          refine lv_iload hx hb dL_law_902 (lv_at hl 0 rfl) ?_
          refine lv_iconst (v := 3) hx hb dL_law_904 (by decide) ?_
          refine lv_iadd hx hb dL_law_905 ?_
          rw [show (nI i) + 3 = nI (i + 3) from nI_add i 3]
          refine va_sld hx hb hX hbl hbA hS (vp_in_nI (by omega) (by omega)) dL_law_906 ?_
          rw [show (nI (i + 3)).toNatClampNeg = i + 3 from nI_clamp (by omega)]
          rw [h3]
          refine lv_aload_n hx hb dL_law_907 rfl (lv_at hl 1 rfl) ?_
          refine g_LS (As := [.ref x0, .int (nI 0), .int (nI ra), .int (nI ra), .ref o]) (rest := []) ⟨hx, hb, hml, hown, hts⟩ (mt_L_crosses_2_0 l htr dC dI cA cL H.size x0 r0 r1 r2 r3 rn (nI ra) (nI ra) o fo (nI_pos (by omega)) (nI_lt hra (by omega)) (nI_pos (by omega)) (nI_lt hra (by omega)) rfl) (vx_cwSW 5 hts gL_law_L_crosses rfl rfl rfl hdL_crosses ⟨Nat.le_of_ble_eq_true rfl, Nat.le_of_ble_eq_true rfl⟩) hP hKl hD hS hA hZ [0, 15] (by decide) rfl rfl hl.1 rfl (Nat.le_of_ble_eq_true rfl) dL_law_908 hc1 hs1 (fun u9 => [(x0, .inr (1, [.ref r0, .ref r1, .ref r2, .ref r3, .int (nI rn)])), (r0, .inr (0, [.ref a0, .int (nI L0.length)])), (a0, .inl (cA, (100, .inl f0))), (r1, .inr (0, [.ref a1, .int (nI L1.length)])), (a1, .inl (cA, (100, .inl f1))), (r2, .inr (0, [.ref a2, .int n2])), (a2, .inl (cA, (100, .inl f2))), (r3, .inr (0, [.ref a3, .int n3])), (a3, .inl (cA, (100, .inl f3))), (y0, .inr (2, [.int tv, .int (nI rn), .ref q1, .ref q2, .int mn, .ref q3, .ref q4, .int ct, .int il, .ref q5])), (q1, .inl (cA, (2, .inl sf))), (q2, .inl (cA, (60, .inl lf))), (q3, .inl (cA, (320, .inl rf))), (q4, .inl (cA, (320, .inl nf))), (q5, .inl (cA, (6, .inl gf))), (o, .inl (cL, (1, .inr (.inl fo))))]) (fun _ => rfl) (fun _ => rfl) (fun u H locs hw_1 hP hD hS => ?_)
          have hP : va_P (dC, dI) vwCl [(x0, .inr (1, [.ref r0, .ref r1, .ref r2, .ref r3, .int (nI rn)])), (r0, .inr (0, [.ref a0, .int (nI L0.length)])), (a0, .inl (cA, (100, .inl f0))), (r1, .inr (0, [.ref a1, .int (nI L1.length)])), (a1, .inl (cA, (100, .inl f1))), (r2, .inr (0, [.ref a2, .int n2])), (a2, .inl (cA, (100, .inl f2))), (r3, .inr (0, [.ref a3, .int n3])), (a3, .inl (cA, (100, .inl f3))), (y0, .inr (2, [.int tv, .int (nI rn), .ref q1, .ref q2, .int mn, .ref q3, .ref q4, .int ct, .int il, .ref q5])), (q1, .inl (cA, (2, .inl sf))), (q2, .inl (cA, (60, .inl lf))), (q3, .inl (cA, (320, .inl rf))), (q4, .inl (cA, (320, .inl nf))), (q5, .inl (cA, (6, .inl gf))), (o, .inl (cL, (1, .inr (.inl fo))))] H := hP
          have hD : va_D A [(x0, .inr (1, [.ref r0, .ref r1, .ref r2, .ref r3, .int (nI rn)])), (r0, .inr (0, [.ref a0, .int (nI L0.length)])), (a0, .inl (cA, (100, .inl f0))), (r1, .inr (0, [.ref a1, .int (nI L1.length)])), (a1, .inl (cA, (100, .inl f1))), (r2, .inr (0, [.ref a2, .int n2])), (a2, .inl (cA, (100, .inl f2))), (r3, .inr (0, [.ref a3, .int n3])), (a3, .inl (cA, (100, .inl f3))), (y0, .inr (2, [.int tv, .int (nI rn), .ref q1, .ref q2, .int mn, .ref q3, .ref q4, .int ct, .int il, .ref q5])), (q1, .inl (cA, (2, .inl sf))), (q2, .inl (cA, (60, .inl lf))), (q3, .inl (cA, (320, .inl rf))), (q4, .inl (cA, (320, .inl nf))), (q5, .inl (cA, (6, .inl gf))), (o, .inl (cL, (1, .inr (.inl fo))))] := hD
          refine lv_istore (lv' := [(5, .int 2), (4, .int (nI i)), (3, .ref o), (2, .ref y0), (1, .ref x0), (0, .ref b)]) hx hb dL_law_911 hl (by decide) rfl (fun ls hl => ?_)
          refine lv_aload_n hx hb dL_law_913 rfl (lv_at hl 3 rfl) ?_
          refine lv_aload_n hx hb dL_law_914 rfl (lv_at hl 5 rfl) ?_
          refine lv_iload hx hb dL_law_915 (lv_at hl 1 rfl) ?_
          refine lv_iconst (v := 1) hx hb dL_law_917 (by decide) ?_
          refine lv_iadd hx hb dL_law_918 ?_
          rw [show (nI i) + 1 = nI (i + 1) from nI_add i 1]
          refine va_sld hx hb hX hbl hbA hS (vp_in_nI (by omega) (by omega)) dL_law_919 ?_
          rw [show (nI (i + 1)).toNatClampNeg = i + 1 from nI_clamp (by omega)]
          rw [h1]
          refine lv_aload_n hx hb dL_law_920 rfl (lv_at hl 5 rfl) ?_
          refine lv_iload hx hb dL_law_921 (lv_at hl 1 rfl) ?_
          refine lv_iconst (v := 2) hx hb dL_law_923 (by decide) ?_
          refine lv_iadd hx hb dL_law_924 ?_
          rw [show (nI i) + 2 = nI (i + 2) from nI_add i 2]
          refine va_sld hx hb hX hbl hbA hS (vp_in_nI (by omega) (by omega)) dL_law_925 ?_
          rw [show (nI (i + 2)).toNatClampNeg = i + 2 from nI_clamp (by omega)]
          rw [h2]
          refine lv_aload_n hx hb dL_law_926 rfl (lv_at hl 5 rfl) ?_
          refine lv_iload hx hb dL_law_927 (lv_at hl 1 rfl) ?_
          refine lv_iconst (v := 3) hx hb dL_law_929 (by decide) ?_
          refine lv_iadd hx hb dL_law_930 ?_
          rw [show (nI i) + 3 = nI (i + 3) from nI_add i 3]
          refine va_sld hx hb hX hbl hbA hS (vp_in_nI (by omega) (by omega)) dL_law_931 ?_
          rw [show (nI (i + 3)).toNatClampNeg = i + 3 from nI_clamp (by omega)]
          rw [h3]
          refine g_MVi (As := [.int (nI 0), .int (nI ra), .int (nI ra)]) (rest := []) ⟨hx, hb, hml, hown, hts⟩ (mt_X2_crosses_2 l dC dI cA H.size y0 q1 q2 q3 q4 q5 rn tv sf lf mn rf nf ct il gf 0 ra (by omega) hr6 hra) (cwV 3 hts gL_law_X2_crosses rfl rfl rfl hdX2_crosses ⟨Nat.le_of_ble_eq_true rfl, Nat.le_of_ble_eq_true rfl⟩) hP hK hD hS hA [9, 10, 11, 12, 13, 14] (by decide) rfl (va_recv hK hP (ci := 2) (q0 := 9) rfl rfl) rfl hl.1 rfl (Nat.le_of_ble_eq_true rfl) dL_law_932 hc1 hs1 (fun u9 => [(x0, .inr (1, [.ref r0, .ref r1, .ref r2, .ref r3, .int (nI rn)])), (r0, .inr (0, [.ref a0, .int (nI L0.length)])), (a0, .inl (cA, (100, .inl f0))), (r1, .inr (0, [.ref a1, .int (nI L1.length)])), (a1, .inl (cA, (100, .inl f1))), (r2, .inr (0, [.ref a2, .int n2])), (a2, .inl (cA, (100, .inl f2))), (r3, .inr (0, [.ref a3, .int n3])), (a3, .inl (cA, (100, .inl f3))), (y0, .inr (2, [.int 2, .int (nI rn), .ref q1, .ref q2, .int mn, .ref q3, .ref q4, .int ct, .int il, .ref q5])), (q1, .inl (cA, (2, .inl sf))), (q2, .inl (cA, (60, .inl lf))), (q3, .inl (cA, (320, .inl rf))), (q4, .inl (cA, (320, .inl nf))), (q5, .inl (cA, (6, .inl gf))), (o, .inl (cL, (1, .inr (.inl fo))))]) (fun _ => rfl) (fun _ => rfl) (fun u H locs hw_2 hP hD hS => ?_)
          have hw_2 : True := hw_2
          have hP : va_P (dC, dI) vwCl [(x0, .inr (1, [.ref r0, .ref r1, .ref r2, .ref r3, .int (nI rn)])), (r0, .inr (0, [.ref a0, .int (nI L0.length)])), (a0, .inl (cA, (100, .inl f0))), (r1, .inr (0, [.ref a1, .int (nI L1.length)])), (a1, .inl (cA, (100, .inl f1))), (r2, .inr (0, [.ref a2, .int n2])), (a2, .inl (cA, (100, .inl f2))), (r3, .inr (0, [.ref a3, .int n3])), (a3, .inl (cA, (100, .inl f3))), (y0, .inr (2, [.int 2, .int (nI rn), .ref q1, .ref q2, .int mn, .ref q3, .ref q4, .int ct, .int il, .ref q5])), (q1, .inl (cA, (2, .inl sf))), (q2, .inl (cA, (60, .inl lf))), (q3, .inl (cA, (320, .inl rf))), (q4, .inl (cA, (320, .inl nf))), (q5, .inl (cA, (6, .inl gf))), (o, .inl (cL, (1, .inr (.inl fo))))] H := hP
          have hD : va_D A [(x0, .inr (1, [.ref r0, .ref r1, .ref r2, .ref r3, .int (nI rn)])), (r0, .inr (0, [.ref a0, .int (nI L0.length)])), (a0, .inl (cA, (100, .inl f0))), (r1, .inr (0, [.ref a1, .int (nI L1.length)])), (a1, .inl (cA, (100, .inl f1))), (r2, .inr (0, [.ref a2, .int n2])), (a2, .inl (cA, (100, .inl f2))), (r3, .inr (0, [.ref a3, .int n3])), (a3, .inl (cA, (100, .inl f3))), (y0, .inr (2, [.int 2, .int (nI rn), .ref q1, .ref q2, .int mn, .ref q3, .ref q4, .int ct, .int il, .ref q5])), (q1, .inl (cA, (2, .inl sf))), (q2, .inl (cA, (60, .inl lf))), (q3, .inl (cA, (320, .inl rf))), (q4, .inl (cA, (320, .inl nf))), (q5, .inl (cA, (6, .inl gf))), (o, .inl (cL, (1, .inr (.inl fo))))] := hD
          refine lv_istore (lv' := [(6, .int 0), (5, .int 2), (4, .int (nI i)), (3, .ref o), (2, .ref y0), (1, .ref x0), (0, .ref b)]) hx hb dL_law_935 hl (by decide) rfl (fun ls hl => ?_)
          refine lv_aload_n hx hb dL_law_937 rfl (lv_at hl 4 rfl) ?_
          refine g_RVi (As := []) (rest := []) ⟨hx, hb, hml, hown, hts⟩ (mt_X2_thrown l dC dI cA H.size y0 q1 q2 q3 q4 q5 rn 2 sf lf mn rf nf ct il gf) (cwV 0 hts gL_law_X2_thrown rfl rfl rfl hdX2_thrown ⟨Nat.le_of_ble_eq_true rfl, Nat.le_of_ble_eq_true rfl⟩) hP hK hD [9, 10, 11, 12, 13, 14] (by decide) rfl (va_recv hK hP (ci := 2) (q0 := 9) rfl rfl) rfl hl.1 rfl (Nat.le_of_ble_eq_true rfl) dL_law_938 hc1 hs1 ?_
          refine lv_iload hx hb dL_law_941 (lv_at hl 1 rfl) ?_
          refine lv_icmp_eq (tgt := 948) hx hb dL_law_943 (by decide) (fun c943 => ?_) (fun c943 => ?_)
          · refine lv_iload hx hb dL_law_948 (lv_at hl 1 rfl) ?_
            refine lv_if_ne (tgt := 965) hx hb dL_law_950 (by decide) (fun c950 => ?_) (fun c950 => ?_)
            · have c950 : ¬ 2 = 0 := g_neT 2 0 (by omega) (by omega) c950
              refine lv_goto (tgt := 1241) hx hb dL_law_965 (by decide) ?_
              exact kk rn L0 L1 _ _ _ _ _ ⟨f0, f1, n2, f2, n3, f3, 2, sf, lf, mn, rf, nf, ct, il, gf, fo, hP, hD, hS, hR0, hR1, hl0, hl1, hrn, hr6, hk0, hk1, hW⟩ (by omega) (by omega) (lv_sub hl [2, 3, 4, 5, 6] rfl)
            · exact absurd c950 (by decide)
          · exact absurd (by decide) c943
        · refine lv_aload_n hx hb dL_law_888 rfl (lv_at hl 3 rfl) ?_
          refine lv_aload_n hx hb dL_law_889 rfl (lv_at hl 4 rfl) ?_
          refine lv_iload hx hb dL_law_890 (lv_at hl 0 rfl) ?_
          refine lv_iconst (v := 1) hx hb dL_law_892 (by decide) ?_
          refine lv_iadd hx hb dL_law_893 ?_
          rw [show (nI i) + 1 = nI (i + 1) from nI_add i 1]
          refine va_sld hx hb hX hbl hbA hS (vp_in_nI (by omega) (by omega)) dL_law_894 ?_
          rw [show (nI (i + 1)).toNatClampNeg = i + 1 from nI_clamp (by omega)]
          rw [h1]
          refine lv_aload_n hx hb dL_law_895 rfl (lv_at hl 4 rfl) ?_
          refine lv_iload hx hb dL_law_896 (lv_at hl 0 rfl) ?_
          refine lv_iconst (v := 2) hx hb dL_law_898 (by decide) ?_
          refine lv_iadd hx hb dL_law_899 ?_
          rw [show (nI i) + 2 = nI (i + 2) from nI_add i 2]
          refine va_sld hx hb hX hbl hbA hS (vp_in_nI (by omega) (by omega)) dL_law_900 ?_
          rw [show (nI (i + 2)).toNatClampNeg = i + 2 from nI_clamp (by omega)]
          rw [h2]
          refine lv_aload_n hx hb dL_law_901 rfl (lv_at hl 4 rfl) ?_
          refine lv_iload hx hb dL_law_902 (lv_at hl 0 rfl) ?_
          refine lv_iconst (v := 3) hx hb dL_law_904 (by decide) ?_
          refine lv_iadd hx hb dL_law_905 ?_
          rw [show (nI i) + 3 = nI (i + 3) from nI_add i 3]
          refine va_sld hx hb hX hbl hbA hS (vp_in_nI (by omega) (by omega)) dL_law_906 ?_
          rw [show (nI (i + 3)).toNatClampNeg = i + 3 from nI_clamp (by omega)]
          rw [h3]
          refine lv_aload_n hx hb dL_law_907 rfl (lv_at hl 1 rfl) ?_
          refine g_LS (As := [.ref x0, .int (nI 0), .int (nI ra), .int (nI rb), .ref o]) (rest := []) ⟨hx, hb, hml, hown, hts⟩ (mt_L_crosses0 l htr dC dI cA cL H.size x0 r0 r1 r2 r3 rn a0 L0 f0 (nI ra) (nI rb) o fo hR0 (nI_pos (by omega)) (nI_lt hra (by omega)) (nI_pos (by omega)) (nI_lt hrb (by omega)) (fun q9 => hab ((nI_eq (by omega) (by omega)).mp q9))) (vx_cwSW 5 hts gL_law_L_crosses rfl rfl rfl hdL_crosses ⟨Nat.le_of_ble_eq_true rfl, Nat.le_of_ble_eq_true rfl⟩) hP hKl hD hS hA hZ [0, 1, 2, 15] (by decide) rfl rfl hl.1 rfl (Nat.le_of_ble_eq_true rfl) dL_law_908 hc0 hs0 (fun u9 => [(x0, .inr (1, [.ref r0, .ref r1, .ref r2, .ref r3, .int (nI rn)])), (r0, .inr (0, [.ref a0, .int (nI L0.length)])), (a0, .inl (cA, (100, .inl f0))), (r1, .inr (0, [.ref a1, .int (nI L1.length)])), (a1, .inl (cA, (100, .inl f1))), (r2, .inr (0, [.ref a2, .int n2])), (a2, .inl (cA, (100, .inl f2))), (r3, .inr (0, [.ref a3, .int n3])), (a3, .inl (cA, (100, .inl f3))), (y0, .inr (2, [.int tv, .int (nI rn), .ref q1, .ref q2, .int mn, .ref q3, .ref q4, .int ct, .int il, .ref q5])), (q1, .inl (cA, (2, .inl sf))), (q2, .inl (cA, (60, .inl lf))), (q3, .inl (cA, (320, .inl rf))), (q4, .inl (cA, (320, .inl nf))), (q5, .inl (cA, (6, .inl gf))), (o, .inl (cL, (1, .inr (.inl (vp_updL fo 0 (crS L0 (nI ra) (nI rb) L0.length).toInt64)))))]) (fun _ => rfl) (fun _ => rfl) (fun u H locs hw_1 hP hD hS => ?_)
          have hP : va_P (dC, dI) vwCl [(x0, .inr (1, [.ref r0, .ref r1, .ref r2, .ref r3, .int (nI rn)])), (r0, .inr (0, [.ref a0, .int (nI L0.length)])), (a0, .inl (cA, (100, .inl f0))), (r1, .inr (0, [.ref a1, .int (nI L1.length)])), (a1, .inl (cA, (100, .inl f1))), (r2, .inr (0, [.ref a2, .int n2])), (a2, .inl (cA, (100, .inl f2))), (r3, .inr (0, [.ref a3, .int n3])), (a3, .inl (cA, (100, .inl f3))), (y0, .inr (2, [.int tv, .int (nI rn), .ref q1, .ref q2, .int mn, .ref q3, .ref q4, .int ct, .int il, .ref q5])), (q1, .inl (cA, (2, .inl sf))), (q2, .inl (cA, (60, .inl lf))), (q3, .inl (cA, (320, .inl rf))), (q4, .inl (cA, (320, .inl nf))), (q5, .inl (cA, (6, .inl gf))), (o, .inl (cL, (1, .inr (.inl (vp_updL fo 0 (crS L0 (nI ra) (nI rb) L0.length).toInt64)))))] H := hP
          have hD : va_D A [(x0, .inr (1, [.ref r0, .ref r1, .ref r2, .ref r3, .int (nI rn)])), (r0, .inr (0, [.ref a0, .int (nI L0.length)])), (a0, .inl (cA, (100, .inl f0))), (r1, .inr (0, [.ref a1, .int (nI L1.length)])), (a1, .inl (cA, (100, .inl f1))), (r2, .inr (0, [.ref a2, .int n2])), (a2, .inl (cA, (100, .inl f2))), (r3, .inr (0, [.ref a3, .int n3])), (a3, .inl (cA, (100, .inl f3))), (y0, .inr (2, [.int tv, .int (nI rn), .ref q1, .ref q2, .int mn, .ref q3, .ref q4, .int ct, .int il, .ref q5])), (q1, .inl (cA, (2, .inl sf))), (q2, .inl (cA, (60, .inl lf))), (q3, .inl (cA, (320, .inl rf))), (q4, .inl (cA, (320, .inl nf))), (q5, .inl (cA, (6, .inl gf))), (o, .inl (cL, (1, .inr (.inl (vp_updL fo 0 (crS L0 (nI ra) (nI rb) L0.length).toInt64)))))] := hD
          refine lv_istore (lv' := [(5, .int 0), (4, .int (nI i)), (3, .ref o), (2, .ref y0), (1, .ref x0), (0, .ref b)]) hx hb dL_law_911 hl (by decide) rfl (fun ls hl => ?_)
          refine lv_aload_n hx hb dL_law_913 rfl (lv_at hl 3 rfl) ?_
          refine lv_aload_n hx hb dL_law_914 rfl (lv_at hl 5 rfl) ?_
          refine lv_iload hx hb dL_law_915 (lv_at hl 1 rfl) ?_
          refine lv_iconst (v := 1) hx hb dL_law_917 (by decide) ?_
          refine lv_iadd hx hb dL_law_918 ?_
          rw [show (nI i) + 1 = nI (i + 1) from nI_add i 1]
          refine va_sld hx hb hX hbl hbA hS (vp_in_nI (by omega) (by omega)) dL_law_919 ?_
          rw [show (nI (i + 1)).toNatClampNeg = i + 1 from nI_clamp (by omega)]
          rw [h1]
          refine lv_aload_n hx hb dL_law_920 rfl (lv_at hl 5 rfl) ?_
          refine lv_iload hx hb dL_law_921 (lv_at hl 1 rfl) ?_
          refine lv_iconst (v := 2) hx hb dL_law_923 (by decide) ?_
          refine lv_iadd hx hb dL_law_924 ?_
          rw [show (nI i) + 2 = nI (i + 2) from nI_add i 2]
          refine va_sld hx hb hX hbl hbA hS (vp_in_nI (by omega) (by omega)) dL_law_925 ?_
          rw [show (nI (i + 2)).toNatClampNeg = i + 2 from nI_clamp (by omega)]
          rw [h2]
          refine lv_aload_n hx hb dL_law_926 rfl (lv_at hl 5 rfl) ?_
          refine lv_iload hx hb dL_law_927 (lv_at hl 1 rfl) ?_
          refine lv_iconst (v := 3) hx hb dL_law_929 (by decide) ?_
          refine lv_iadd hx hb dL_law_930 ?_
          rw [show (nI i) + 3 = nI (i + 3) from nI_add i 3]
          refine va_sld hx hb hX hbl hbA hS (vp_in_nI (by omega) (by omega)) dL_law_931 ?_
          rw [show (nI (i + 3)).toNatClampNeg = i + 3 from nI_clamp (by omega)]
          rw [h3]
          refine g_MVi (As := [.int (nI 0), .int (nI ra), .int (nI rb)]) (rest := []) ⟨hx, hb, hml, hown, hts⟩ (mt_X2_crosses l dC dI cA H.size y0 q1 q2 q3 q4 q5 rn tv sf lf mn rf nf ct il gf (V2 L0 L1) 0 ra rb hW hrn hr6 hok (by omega) hra hrb hab) (cwV 3 hts gL_law_X2_crosses rfl rfl rfl hdX2_crosses ⟨Nat.le_of_ble_eq_true rfl, Nat.le_of_ble_eq_true rfl⟩) hP hK hD hS hA [9, 10, 11, 12, 13, 14] (by decide) rfl (va_recv hK hP (ci := 2) (q0 := 9) rfl rfl) rfl hl.1 rfl (Nat.le_of_ble_eq_true rfl) dL_law_932 hc0 hs0 (fun u9 => [(x0, .inr (1, [.ref r0, .ref r1, .ref r2, .ref r3, .int (nI rn)])), (r0, .inr (0, [.ref a0, .int (nI L0.length)])), (a0, .inl (cA, (100, .inl f0))), (r1, .inr (0, [.ref a1, .int (nI L1.length)])), (a1, .inl (cA, (100, .inl f1))), (r2, .inr (0, [.ref a2, .int n2])), (a2, .inl (cA, (100, .inl f2))), (r3, .inr (0, [.ref a3, .int n3])), (a3, .inl (cA, (100, .inl f3))), (y0, .inr (2, [.int 0, .int (nI rn), .ref q1, .ref q2, .int mn, .ref q3, .ref q4, .int ct, .int il, .ref q5])), (q1, .inl (cA, (2, .inl sf))), (q2, .inl (cA, (60, .inl lf))), (q3, .inl (cA, (320, .inl rf))), (q4, .inl (cA, (320, .inl nf))), (q5, .inl (cA, (6, .inl u9))), (o, .inl (cL, (1, .inr (.inl (vp_updL fo 0 (crS L0 (nI ra) (nI rb) L0.length).toInt64)))))]) (fun _ => rfl) (fun _ => rfl) (fun u H locs hw_3 hP hD hS => ?_)
          obtain ⟨g9_2, rfl⟩ : ∃ z, z = u := ⟨_, rfl⟩
          have hw_3 : True := hw_3
          have hP : va_P (dC, dI) vwCl [(x0, .inr (1, [.ref r0, .ref r1, .ref r2, .ref r3, .int (nI rn)])), (r0, .inr (0, [.ref a0, .int (nI L0.length)])), (a0, .inl (cA, (100, .inl f0))), (r1, .inr (0, [.ref a1, .int (nI L1.length)])), (a1, .inl (cA, (100, .inl f1))), (r2, .inr (0, [.ref a2, .int n2])), (a2, .inl (cA, (100, .inl f2))), (r3, .inr (0, [.ref a3, .int n3])), (a3, .inl (cA, (100, .inl f3))), (y0, .inr (2, [.int 0, .int (nI rn), .ref q1, .ref q2, .int mn, .ref q3, .ref q4, .int ct, .int il, .ref q5])), (q1, .inl (cA, (2, .inl sf))), (q2, .inl (cA, (60, .inl lf))), (q3, .inl (cA, (320, .inl rf))), (q4, .inl (cA, (320, .inl nf))), (q5, .inl (cA, (6, .inl g9_2))), (o, .inl (cL, (1, .inr (.inl (vp_updL fo 0 (crS L0 (nI ra) (nI rb) L0.length).toInt64)))))] H := hP
          have hD : va_D A [(x0, .inr (1, [.ref r0, .ref r1, .ref r2, .ref r3, .int (nI rn)])), (r0, .inr (0, [.ref a0, .int (nI L0.length)])), (a0, .inl (cA, (100, .inl f0))), (r1, .inr (0, [.ref a1, .int (nI L1.length)])), (a1, .inl (cA, (100, .inl f1))), (r2, .inr (0, [.ref a2, .int n2])), (a2, .inl (cA, (100, .inl f2))), (r3, .inr (0, [.ref a3, .int n3])), (a3, .inl (cA, (100, .inl f3))), (y0, .inr (2, [.int 0, .int (nI rn), .ref q1, .ref q2, .int mn, .ref q3, .ref q4, .int ct, .int il, .ref q5])), (q1, .inl (cA, (2, .inl sf))), (q2, .inl (cA, (60, .inl lf))), (q3, .inl (cA, (320, .inl rf))), (q4, .inl (cA, (320, .inl nf))), (q5, .inl (cA, (6, .inl g9_2))), (o, .inl (cL, (1, .inr (.inl (vp_updL fo 0 (crS L0 (nI ra) (nI rb) L0.length).toInt64)))))] := hD
          refine lv_istore (lv' := [(6, .int (crS ((V2 L0 L1) 0) (nI ra) (nI rb) ((V2 L0 L1) 0).length)), (5, .int 0), (4, .int (nI i)), (3, .ref o), (2, .ref y0), (1, .ref x0), (0, .ref b)]) hx hb dL_law_935 hl (by decide) rfl (fun ls hl => ?_)
          refine lv_aload_n hx hb dL_law_937 rfl (lv_at hl 4 rfl) ?_
          refine g_RVi (As := []) (rest := []) ⟨hx, hb, hml, hown, hts⟩ (mt_X2_thrown l dC dI cA H.size y0 q1 q2 q3 q4 q5 rn 0 sf lf mn rf nf ct il g9_2) (cwV 0 hts gL_law_X2_thrown rfl rfl rfl hdX2_thrown ⟨Nat.le_of_ble_eq_true rfl, Nat.le_of_ble_eq_true rfl⟩) hP hK hD [9, 10, 11, 12, 13, 14] (by decide) rfl (va_recv hK hP (ci := 2) (q0 := 9) rfl rfl) rfl hl.1 rfl (Nat.le_of_ble_eq_true rfl) dL_law_938 hc0 hs0 ?_
          refine lv_iload hx hb dL_law_941 (lv_at hl 1 rfl) ?_
          refine lv_icmp_eq (tgt := 948) hx hb dL_law_943 (by decide) (fun c943 => ?_) (fun c943 => ?_)
          · refine lv_iload hx hb dL_law_948 (lv_at hl 1 rfl) ?_
            refine lv_if_ne (tgt := 965) hx hb dL_law_950 (by decide) (fun c950 => ?_) (fun c950 => ?_)
            · exact absurd (by decide) c950
            · have c950 : 0 = 0 := g_neF 0 0 (by omega) (by omega) c950
              refine lv_aload_n hx hb dL_law_953 rfl (lv_at hl 3 rfl) ?_
              refine lv_iconst (v := 0) hx hb dL_law_954 (by decide) ?_
              refine va_lald hx hb hKl hP 15 1 rfl rfl (vp_in_nI (n := 0) (by omega) (by decide)) dL_law_955 ?_
              rw [show (0 : Int32).toNatClampNeg = 0 from by decide, pk_uLs]
              refine lv_iload hx hb dL_law_956 (lv_at hl 0 rfl) ?_
              refine lv_i2l (v := (crS ((V2 L0 L1) 0) (nI ra) (nI rb) ((V2 L0 L1) 0).length).toInt64) hx hb dL_law_958 rfl ?_
              refine W.lcmp hx hb dL_law_959 ?_
              rw [show lg_cmp ((crS L0 (nI ra) (nI rb) L0.length).toInt64) ((crS ((V2 L0 L1) 0) (nI ra) (nI rb) ((V2 L0 L1) 0).length).toInt64) = 0 from (lg_cmp_eq _ _).mpr rfl]
              refine lv_if_eq (tgt := 965) hx hb dL_law_960 (by decide) (fun c960 => ?_) (fun c960 => ?_)
              · have c960 : 0 = 0 := g_eqT 0 0 (by omega) (by omega) c960
                refine lv_goto (tgt := 1241) hx hb dL_law_965 (by decide) ?_
                exact kk rn L0 L1 _ _ _ _ _ ⟨f0, f1, n2, f2, n3, f3, 0, sf, lf, mn, rf, nf, ct, il, g9_2, vp_updL fo 0 (crS L0 (nI ra) (nI rb) L0.length).toInt64, hP, hD, hS, hR0, hR1, hl0, hl1, hrn, hr6, hk0, hk1, hW⟩ (by omega) (by omega) (lv_sub hl [2, 3, 4, 5, 6] rfl)
              · exact absurd (by decide) c960
          · exact absurd (by decide) c943
  · rcases pk_ix (xs (i + 2)) (n := rn) (by omega) with hbad | hbad | ⟨ra, hra, h2⟩
    · refine lv_aload_n hx hb dL_law_888 rfl (lv_at hl 3 rfl) ?_
      refine lv_aload_n hx hb dL_law_889 rfl (lv_at hl 4 rfl) ?_
      refine lv_iload hx hb dL_law_890 (lv_at hl 0 rfl) ?_
      refine lv_iconst (v := 1) hx hb dL_law_892 (by decide) ?_
      refine lv_iadd hx hb dL_law_893 ?_
      rw [show (nI i) + 1 = nI (i + 1) from nI_add i 1]
      refine va_sld hx hb hX hbl hbA hS (vp_in_nI (by omega) (by omega)) dL_law_894 ?_
      rw [show (nI (i + 1)).toNatClampNeg = i + 1 from nI_clamp (by omega)]
      rw [h1]
      refine lv_aload_n hx hb dL_law_895 rfl (lv_at hl 4 rfl) ?_
      refine lv_iload hx hb dL_law_896 (lv_at hl 0 rfl) ?_
      refine lv_iconst (v := 2) hx hb dL_law_898 (by decide) ?_
      refine lv_iadd hx hb dL_law_899 ?_
      rw [show (nI i) + 2 = nI (i + 2) from nI_add i 2]
      refine va_sld hx hb hX hbl hbA hS (vp_in_nI (by omega) (by omega)) dL_law_900 ?_
      rw [show (nI (i + 2)).toNatClampNeg = i + 2 from nI_clamp (by omega)]
      refine lv_aload_n hx hb dL_law_901 rfl (lv_at hl 4 rfl) ?_
      refine lv_iload hx hb dL_law_902 (lv_at hl 0 rfl) ?_
      refine lv_iconst (v := 3) hx hb dL_law_904 (by decide) ?_
      refine lv_iadd hx hb dL_law_905 ?_
      rw [show (nI i) + 3 = nI (i + 3) from nI_add i 3]
      refine va_sld hx hb hX hbl hbA hS (vp_in_nI (by omega) (by omega)) dL_law_906 ?_
      rw [show (nI (i + 3)).toNatClampNeg = i + 3 from nI_clamp (by omega)]
      refine lv_aload_n hx hb dL_law_907 rfl (lv_at hl 1 rfl) ?_
      refine g_LS (As := [.ref x0, .int (nI 1), .int (xs (i + 2)), .int (xs (i + 3)), .ref o]) (rest := []) ⟨hx, hb, hml, hown, hts⟩ (mt_L_crosses_1b_1 l htr dC dI cA cL H.size x0 r0 r1 r2 r3 rn (xs (i + 2)) (xs (i + 3)) o fo (Or.inl hbad)) (vx_cwSW 5 hts gL_law_L_crosses rfl rfl rfl hdL_crosses ⟨Nat.le_of_ble_eq_true rfl, Nat.le_of_ble_eq_true rfl⟩) hP hKl hD hS hA hZ [0, 15] (by decide) rfl rfl hl.1 rfl (Nat.le_of_ble_eq_true rfl) dL_law_908 hc1 hs1 (fun u9 => [(x0, .inr (1, [.ref r0, .ref r1, .ref r2, .ref r3, .int (nI rn)])), (r0, .inr (0, [.ref a0, .int (nI L0.length)])), (a0, .inl (cA, (100, .inl f0))), (r1, .inr (0, [.ref a1, .int (nI L1.length)])), (a1, .inl (cA, (100, .inl f1))), (r2, .inr (0, [.ref a2, .int n2])), (a2, .inl (cA, (100, .inl f2))), (r3, .inr (0, [.ref a3, .int n3])), (a3, .inl (cA, (100, .inl f3))), (y0, .inr (2, [.int tv, .int (nI rn), .ref q1, .ref q2, .int mn, .ref q3, .ref q4, .int ct, .int il, .ref q5])), (q1, .inl (cA, (2, .inl sf))), (q2, .inl (cA, (60, .inl lf))), (q3, .inl (cA, (320, .inl rf))), (q4, .inl (cA, (320, .inl nf))), (q5, .inl (cA, (6, .inl gf))), (o, .inl (cL, (1, .inr (.inl fo))))]) (fun _ => rfl) (fun _ => rfl) (fun u H locs hw_1 hP hD hS => ?_)
      have hP : va_P (dC, dI) vwCl [(x0, .inr (1, [.ref r0, .ref r1, .ref r2, .ref r3, .int (nI rn)])), (r0, .inr (0, [.ref a0, .int (nI L0.length)])), (a0, .inl (cA, (100, .inl f0))), (r1, .inr (0, [.ref a1, .int (nI L1.length)])), (a1, .inl (cA, (100, .inl f1))), (r2, .inr (0, [.ref a2, .int n2])), (a2, .inl (cA, (100, .inl f2))), (r3, .inr (0, [.ref a3, .int n3])), (a3, .inl (cA, (100, .inl f3))), (y0, .inr (2, [.int tv, .int (nI rn), .ref q1, .ref q2, .int mn, .ref q3, .ref q4, .int ct, .int il, .ref q5])), (q1, .inl (cA, (2, .inl sf))), (q2, .inl (cA, (60, .inl lf))), (q3, .inl (cA, (320, .inl rf))), (q4, .inl (cA, (320, .inl nf))), (q5, .inl (cA, (6, .inl gf))), (o, .inl (cL, (1, .inr (.inl fo))))] H := hP
      have hD : va_D A [(x0, .inr (1, [.ref r0, .ref r1, .ref r2, .ref r3, .int (nI rn)])), (r0, .inr (0, [.ref a0, .int (nI L0.length)])), (a0, .inl (cA, (100, .inl f0))), (r1, .inr (0, [.ref a1, .int (nI L1.length)])), (a1, .inl (cA, (100, .inl f1))), (r2, .inr (0, [.ref a2, .int n2])), (a2, .inl (cA, (100, .inl f2))), (r3, .inr (0, [.ref a3, .int n3])), (a3, .inl (cA, (100, .inl f3))), (y0, .inr (2, [.int tv, .int (nI rn), .ref q1, .ref q2, .int mn, .ref q3, .ref q4, .int ct, .int il, .ref q5])), (q1, .inl (cA, (2, .inl sf))), (q2, .inl (cA, (60, .inl lf))), (q3, .inl (cA, (320, .inl rf))), (q4, .inl (cA, (320, .inl nf))), (q5, .inl (cA, (6, .inl gf))), (o, .inl (cL, (1, .inr (.inl fo))))] := hD
      refine lv_istore (lv' := [(5, .int 1), (4, .int (nI i)), (3, .ref o), (2, .ref y0), (1, .ref x0), (0, .ref b)]) hx hb dL_law_911 hl (by decide) rfl (fun ls hl => ?_)
      refine lv_aload_n hx hb dL_law_913 rfl (lv_at hl 3 rfl) ?_
      refine lv_aload_n hx hb dL_law_914 rfl (lv_at hl 5 rfl) ?_
      refine lv_iload hx hb dL_law_915 (lv_at hl 1 rfl) ?_
      refine lv_iconst (v := 1) hx hb dL_law_917 (by decide) ?_
      refine lv_iadd hx hb dL_law_918 ?_
      rw [show (nI i) + 1 = nI (i + 1) from nI_add i 1]
      refine va_sld hx hb hX hbl hbA hS (vp_in_nI (by omega) (by omega)) dL_law_919 ?_
      rw [show (nI (i + 1)).toNatClampNeg = i + 1 from nI_clamp (by omega)]
      rw [h1]
      refine lv_aload_n hx hb dL_law_920 rfl (lv_at hl 5 rfl) ?_
      refine lv_iload hx hb dL_law_921 (lv_at hl 1 rfl) ?_
      refine lv_iconst (v := 2) hx hb dL_law_923 (by decide) ?_
      refine lv_iadd hx hb dL_law_924 ?_
      rw [show (nI i) + 2 = nI (i + 2) from nI_add i 2]
      refine va_sld hx hb hX hbl hbA hS (vp_in_nI (by omega) (by omega)) dL_law_925 ?_
      rw [show (nI (i + 2)).toNatClampNeg = i + 2 from nI_clamp (by omega)]
      refine lv_aload_n hx hb dL_law_926 rfl (lv_at hl 5 rfl) ?_
      refine lv_iload hx hb dL_law_927 (lv_at hl 1 rfl) ?_
      refine lv_iconst (v := 3) hx hb dL_law_929 (by decide) ?_
      refine lv_iadd hx hb dL_law_930 ?_
      rw [show (nI i) + 3 = nI (i + 3) from nI_add i 3]
      refine va_sld hx hb hX hbl hbA hS (vp_in_nI (by omega) (by omega)) dL_law_931 ?_
      rw [show (nI (i + 3)).toNatClampNeg = i + 3 from nI_clamp (by omega)]
      refine g_MVi (As := [.int (nI 1), .int (xs (i + 2)), .int (xs (i + 3))]) (rest := []) ⟨hx, hb, hml, hown, hts⟩ (mt_X2_crosses_1b l dC dI cA H.size y0 q1 q2 q3 q4 q5 rn tv sf lf mn rf nf ct il gf 1 (xs (i + 2)) (xs (i + 3)) (by omega) hr6 (Or.inl hbad)) (cwV 3 hts gL_law_X2_crosses rfl rfl rfl hdX2_crosses ⟨Nat.le_of_ble_eq_true rfl, Nat.le_of_ble_eq_true rfl⟩) hP hK hD hS hA [9, 10, 11, 12, 13, 14] (by decide) rfl (va_recv hK hP (ci := 2) (q0 := 9) rfl rfl) rfl hl.1 rfl (Nat.le_of_ble_eq_true rfl) dL_law_932 hc1 hs1 (fun u9 => [(x0, .inr (1, [.ref r0, .ref r1, .ref r2, .ref r3, .int (nI rn)])), (r0, .inr (0, [.ref a0, .int (nI L0.length)])), (a0, .inl (cA, (100, .inl f0))), (r1, .inr (0, [.ref a1, .int (nI L1.length)])), (a1, .inl (cA, (100, .inl f1))), (r2, .inr (0, [.ref a2, .int n2])), (a2, .inl (cA, (100, .inl f2))), (r3, .inr (0, [.ref a3, .int n3])), (a3, .inl (cA, (100, .inl f3))), (y0, .inr (2, [.int 1, .int (nI rn), .ref q1, .ref q2, .int mn, .ref q3, .ref q4, .int ct, .int il, .ref q5])), (q1, .inl (cA, (2, .inl sf))), (q2, .inl (cA, (60, .inl lf))), (q3, .inl (cA, (320, .inl rf))), (q4, .inl (cA, (320, .inl nf))), (q5, .inl (cA, (6, .inl gf))), (o, .inl (cL, (1, .inr (.inl fo))))]) (fun _ => rfl) (fun _ => rfl) (fun u H locs hw_2 hP hD hS => ?_)
      have hw_2 : True := hw_2
      have hP : va_P (dC, dI) vwCl [(x0, .inr (1, [.ref r0, .ref r1, .ref r2, .ref r3, .int (nI rn)])), (r0, .inr (0, [.ref a0, .int (nI L0.length)])), (a0, .inl (cA, (100, .inl f0))), (r1, .inr (0, [.ref a1, .int (nI L1.length)])), (a1, .inl (cA, (100, .inl f1))), (r2, .inr (0, [.ref a2, .int n2])), (a2, .inl (cA, (100, .inl f2))), (r3, .inr (0, [.ref a3, .int n3])), (a3, .inl (cA, (100, .inl f3))), (y0, .inr (2, [.int 1, .int (nI rn), .ref q1, .ref q2, .int mn, .ref q3, .ref q4, .int ct, .int il, .ref q5])), (q1, .inl (cA, (2, .inl sf))), (q2, .inl (cA, (60, .inl lf))), (q3, .inl (cA, (320, .inl rf))), (q4, .inl (cA, (320, .inl nf))), (q5, .inl (cA, (6, .inl gf))), (o, .inl (cL, (1, .inr (.inl fo))))] H := hP
      have hD : va_D A [(x0, .inr (1, [.ref r0, .ref r1, .ref r2, .ref r3, .int (nI rn)])), (r0, .inr (0, [.ref a0, .int (nI L0.length)])), (a0, .inl (cA, (100, .inl f0))), (r1, .inr (0, [.ref a1, .int (nI L1.length)])), (a1, .inl (cA, (100, .inl f1))), (r2, .inr (0, [.ref a2, .int n2])), (a2, .inl (cA, (100, .inl f2))), (r3, .inr (0, [.ref a3, .int n3])), (a3, .inl (cA, (100, .inl f3))), (y0, .inr (2, [.int 1, .int (nI rn), .ref q1, .ref q2, .int mn, .ref q3, .ref q4, .int ct, .int il, .ref q5])), (q1, .inl (cA, (2, .inl sf))), (q2, .inl (cA, (60, .inl lf))), (q3, .inl (cA, (320, .inl rf))), (q4, .inl (cA, (320, .inl nf))), (q5, .inl (cA, (6, .inl gf))), (o, .inl (cL, (1, .inr (.inl fo))))] := hD
      refine lv_istore (lv' := [(6, .int 0), (5, .int 1), (4, .int (nI i)), (3, .ref o), (2, .ref y0), (1, .ref x0), (0, .ref b)]) hx hb dL_law_935 hl (by decide) rfl (fun ls hl => ?_)
      refine lv_aload_n hx hb dL_law_937 rfl (lv_at hl 4 rfl) ?_
      refine g_RVi (As := []) (rest := []) ⟨hx, hb, hml, hown, hts⟩ (mt_X2_thrown l dC dI cA H.size y0 q1 q2 q3 q4 q5 rn 1 sf lf mn rf nf ct il gf) (cwV 0 hts gL_law_X2_thrown rfl rfl rfl hdX2_thrown ⟨Nat.le_of_ble_eq_true rfl, Nat.le_of_ble_eq_true rfl⟩) hP hK hD [9, 10, 11, 12, 13, 14] (by decide) rfl (va_recv hK hP (ci := 2) (q0 := 9) rfl rfl) rfl hl.1 rfl (Nat.le_of_ble_eq_true rfl) dL_law_938 hc1 hs1 ?_
      refine lv_iload hx hb dL_law_941 (lv_at hl 1 rfl) ?_
      refine lv_icmp_eq (tgt := 948) hx hb dL_law_943 (by decide) (fun c943 => ?_) (fun c943 => ?_)
      · refine lv_iload hx hb dL_law_948 (lv_at hl 1 rfl) ?_
        refine lv_if_ne (tgt := 965) hx hb dL_law_950 (by decide) (fun c950 => ?_) (fun c950 => ?_)
        · have c950 : ¬ 1 = 0 := g_neT 1 0 (by omega) (by omega) c950
          refine lv_goto (tgt := 1241) hx hb dL_law_965 (by decide) ?_
          exact kk rn L0 L1 _ _ _ _ _ ⟨f0, f1, n2, f2, n3, f3, 1, sf, lf, mn, rf, nf, ct, il, gf, fo, hP, hD, hS, hR0, hR1, hl0, hl1, hrn, hr6, hk0, hk1, hW⟩ (by omega) (by omega) (lv_sub hl [2, 3, 4, 5, 6] rfl)
        · exact absurd c950 (by decide)
      · exact absurd (by decide) c943
    · refine lv_aload_n hx hb dL_law_888 rfl (lv_at hl 3 rfl) ?_
      refine lv_aload_n hx hb dL_law_889 rfl (lv_at hl 4 rfl) ?_
      refine lv_iload hx hb dL_law_890 (lv_at hl 0 rfl) ?_
      refine lv_iconst (v := 1) hx hb dL_law_892 (by decide) ?_
      refine lv_iadd hx hb dL_law_893 ?_
      rw [show (nI i) + 1 = nI (i + 1) from nI_add i 1]
      refine va_sld hx hb hX hbl hbA hS (vp_in_nI (by omega) (by omega)) dL_law_894 ?_
      rw [show (nI (i + 1)).toNatClampNeg = i + 1 from nI_clamp (by omega)]
      rw [h1]
      refine lv_aload_n hx hb dL_law_895 rfl (lv_at hl 4 rfl) ?_
      refine lv_iload hx hb dL_law_896 (lv_at hl 0 rfl) ?_
      refine lv_iconst (v := 2) hx hb dL_law_898 (by decide) ?_
      refine lv_iadd hx hb dL_law_899 ?_
      rw [show (nI i) + 2 = nI (i + 2) from nI_add i 2]
      refine va_sld hx hb hX hbl hbA hS (vp_in_nI (by omega) (by omega)) dL_law_900 ?_
      rw [show (nI (i + 2)).toNatClampNeg = i + 2 from nI_clamp (by omega)]
      refine lv_aload_n hx hb dL_law_901 rfl (lv_at hl 4 rfl) ?_
      refine lv_iload hx hb dL_law_902 (lv_at hl 0 rfl) ?_
      refine lv_iconst (v := 3) hx hb dL_law_904 (by decide) ?_
      refine lv_iadd hx hb dL_law_905 ?_
      rw [show (nI i) + 3 = nI (i + 3) from nI_add i 3]
      refine va_sld hx hb hX hbl hbA hS (vp_in_nI (by omega) (by omega)) dL_law_906 ?_
      rw [show (nI (i + 3)).toNatClampNeg = i + 3 from nI_clamp (by omega)]
      refine lv_aload_n hx hb dL_law_907 rfl (lv_at hl 1 rfl) ?_
      refine g_LS (As := [.ref x0, .int (nI 1), .int (xs (i + 2)), .int (xs (i + 3)), .ref o]) (rest := []) ⟨hx, hb, hml, hown, hts⟩ (mt_L_crosses_1b_1 l htr dC dI cA cL H.size x0 r0 r1 r2 r3 rn (xs (i + 2)) (xs (i + 3)) o fo (Or.inr hbad)) (vx_cwSW 5 hts gL_law_L_crosses rfl rfl rfl hdL_crosses ⟨Nat.le_of_ble_eq_true rfl, Nat.le_of_ble_eq_true rfl⟩) hP hKl hD hS hA hZ [0, 15] (by decide) rfl rfl hl.1 rfl (Nat.le_of_ble_eq_true rfl) dL_law_908 hc1 hs1 (fun u9 => [(x0, .inr (1, [.ref r0, .ref r1, .ref r2, .ref r3, .int (nI rn)])), (r0, .inr (0, [.ref a0, .int (nI L0.length)])), (a0, .inl (cA, (100, .inl f0))), (r1, .inr (0, [.ref a1, .int (nI L1.length)])), (a1, .inl (cA, (100, .inl f1))), (r2, .inr (0, [.ref a2, .int n2])), (a2, .inl (cA, (100, .inl f2))), (r3, .inr (0, [.ref a3, .int n3])), (a3, .inl (cA, (100, .inl f3))), (y0, .inr (2, [.int tv, .int (nI rn), .ref q1, .ref q2, .int mn, .ref q3, .ref q4, .int ct, .int il, .ref q5])), (q1, .inl (cA, (2, .inl sf))), (q2, .inl (cA, (60, .inl lf))), (q3, .inl (cA, (320, .inl rf))), (q4, .inl (cA, (320, .inl nf))), (q5, .inl (cA, (6, .inl gf))), (o, .inl (cL, (1, .inr (.inl fo))))]) (fun _ => rfl) (fun _ => rfl) (fun u H locs hw_1 hP hD hS => ?_)
      have hP : va_P (dC, dI) vwCl [(x0, .inr (1, [.ref r0, .ref r1, .ref r2, .ref r3, .int (nI rn)])), (r0, .inr (0, [.ref a0, .int (nI L0.length)])), (a0, .inl (cA, (100, .inl f0))), (r1, .inr (0, [.ref a1, .int (nI L1.length)])), (a1, .inl (cA, (100, .inl f1))), (r2, .inr (0, [.ref a2, .int n2])), (a2, .inl (cA, (100, .inl f2))), (r3, .inr (0, [.ref a3, .int n3])), (a3, .inl (cA, (100, .inl f3))), (y0, .inr (2, [.int tv, .int (nI rn), .ref q1, .ref q2, .int mn, .ref q3, .ref q4, .int ct, .int il, .ref q5])), (q1, .inl (cA, (2, .inl sf))), (q2, .inl (cA, (60, .inl lf))), (q3, .inl (cA, (320, .inl rf))), (q4, .inl (cA, (320, .inl nf))), (q5, .inl (cA, (6, .inl gf))), (o, .inl (cL, (1, .inr (.inl fo))))] H := hP
      have hD : va_D A [(x0, .inr (1, [.ref r0, .ref r1, .ref r2, .ref r3, .int (nI rn)])), (r0, .inr (0, [.ref a0, .int (nI L0.length)])), (a0, .inl (cA, (100, .inl f0))), (r1, .inr (0, [.ref a1, .int (nI L1.length)])), (a1, .inl (cA, (100, .inl f1))), (r2, .inr (0, [.ref a2, .int n2])), (a2, .inl (cA, (100, .inl f2))), (r3, .inr (0, [.ref a3, .int n3])), (a3, .inl (cA, (100, .inl f3))), (y0, .inr (2, [.int tv, .int (nI rn), .ref q1, .ref q2, .int mn, .ref q3, .ref q4, .int ct, .int il, .ref q5])), (q1, .inl (cA, (2, .inl sf))), (q2, .inl (cA, (60, .inl lf))), (q3, .inl (cA, (320, .inl rf))), (q4, .inl (cA, (320, .inl nf))), (q5, .inl (cA, (6, .inl gf))), (o, .inl (cL, (1, .inr (.inl fo))))] := hD
      refine lv_istore (lv' := [(5, .int 1), (4, .int (nI i)), (3, .ref o), (2, .ref y0), (1, .ref x0), (0, .ref b)]) hx hb dL_law_911 hl (by decide) rfl (fun ls hl => ?_)
      refine lv_aload_n hx hb dL_law_913 rfl (lv_at hl 3 rfl) ?_
      refine lv_aload_n hx hb dL_law_914 rfl (lv_at hl 5 rfl) ?_
      refine lv_iload hx hb dL_law_915 (lv_at hl 1 rfl) ?_
      refine lv_iconst (v := 1) hx hb dL_law_917 (by decide) ?_
      refine lv_iadd hx hb dL_law_918 ?_
      rw [show (nI i) + 1 = nI (i + 1) from nI_add i 1]
      refine va_sld hx hb hX hbl hbA hS (vp_in_nI (by omega) (by omega)) dL_law_919 ?_
      rw [show (nI (i + 1)).toNatClampNeg = i + 1 from nI_clamp (by omega)]
      rw [h1]
      refine lv_aload_n hx hb dL_law_920 rfl (lv_at hl 5 rfl) ?_
      refine lv_iload hx hb dL_law_921 (lv_at hl 1 rfl) ?_
      refine lv_iconst (v := 2) hx hb dL_law_923 (by decide) ?_
      refine lv_iadd hx hb dL_law_924 ?_
      rw [show (nI i) + 2 = nI (i + 2) from nI_add i 2]
      refine va_sld hx hb hX hbl hbA hS (vp_in_nI (by omega) (by omega)) dL_law_925 ?_
      rw [show (nI (i + 2)).toNatClampNeg = i + 2 from nI_clamp (by omega)]
      refine lv_aload_n hx hb dL_law_926 rfl (lv_at hl 5 rfl) ?_
      refine lv_iload hx hb dL_law_927 (lv_at hl 1 rfl) ?_
      refine lv_iconst (v := 3) hx hb dL_law_929 (by decide) ?_
      refine lv_iadd hx hb dL_law_930 ?_
      rw [show (nI i) + 3 = nI (i + 3) from nI_add i 3]
      refine va_sld hx hb hX hbl hbA hS (vp_in_nI (by omega) (by omega)) dL_law_931 ?_
      rw [show (nI (i + 3)).toNatClampNeg = i + 3 from nI_clamp (by omega)]
      refine g_MVi (As := [.int (nI 1), .int (xs (i + 2)), .int (xs (i + 3))]) (rest := []) ⟨hx, hb, hml, hown, hts⟩ (mt_X2_crosses_1b l dC dI cA H.size y0 q1 q2 q3 q4 q5 rn tv sf lf mn rf nf ct il gf 1 (xs (i + 2)) (xs (i + 3)) (by omega) hr6 (Or.inr hbad)) (cwV 3 hts gL_law_X2_crosses rfl rfl rfl hdX2_crosses ⟨Nat.le_of_ble_eq_true rfl, Nat.le_of_ble_eq_true rfl⟩) hP hK hD hS hA [9, 10, 11, 12, 13, 14] (by decide) rfl (va_recv hK hP (ci := 2) (q0 := 9) rfl rfl) rfl hl.1 rfl (Nat.le_of_ble_eq_true rfl) dL_law_932 hc1 hs1 (fun u9 => [(x0, .inr (1, [.ref r0, .ref r1, .ref r2, .ref r3, .int (nI rn)])), (r0, .inr (0, [.ref a0, .int (nI L0.length)])), (a0, .inl (cA, (100, .inl f0))), (r1, .inr (0, [.ref a1, .int (nI L1.length)])), (a1, .inl (cA, (100, .inl f1))), (r2, .inr (0, [.ref a2, .int n2])), (a2, .inl (cA, (100, .inl f2))), (r3, .inr (0, [.ref a3, .int n3])), (a3, .inl (cA, (100, .inl f3))), (y0, .inr (2, [.int 1, .int (nI rn), .ref q1, .ref q2, .int mn, .ref q3, .ref q4, .int ct, .int il, .ref q5])), (q1, .inl (cA, (2, .inl sf))), (q2, .inl (cA, (60, .inl lf))), (q3, .inl (cA, (320, .inl rf))), (q4, .inl (cA, (320, .inl nf))), (q5, .inl (cA, (6, .inl gf))), (o, .inl (cL, (1, .inr (.inl fo))))]) (fun _ => rfl) (fun _ => rfl) (fun u H locs hw_2 hP hD hS => ?_)
      have hw_2 : True := hw_2
      have hP : va_P (dC, dI) vwCl [(x0, .inr (1, [.ref r0, .ref r1, .ref r2, .ref r3, .int (nI rn)])), (r0, .inr (0, [.ref a0, .int (nI L0.length)])), (a0, .inl (cA, (100, .inl f0))), (r1, .inr (0, [.ref a1, .int (nI L1.length)])), (a1, .inl (cA, (100, .inl f1))), (r2, .inr (0, [.ref a2, .int n2])), (a2, .inl (cA, (100, .inl f2))), (r3, .inr (0, [.ref a3, .int n3])), (a3, .inl (cA, (100, .inl f3))), (y0, .inr (2, [.int 1, .int (nI rn), .ref q1, .ref q2, .int mn, .ref q3, .ref q4, .int ct, .int il, .ref q5])), (q1, .inl (cA, (2, .inl sf))), (q2, .inl (cA, (60, .inl lf))), (q3, .inl (cA, (320, .inl rf))), (q4, .inl (cA, (320, .inl nf))), (q5, .inl (cA, (6, .inl gf))), (o, .inl (cL, (1, .inr (.inl fo))))] H := hP
      have hD : va_D A [(x0, .inr (1, [.ref r0, .ref r1, .ref r2, .ref r3, .int (nI rn)])), (r0, .inr (0, [.ref a0, .int (nI L0.length)])), (a0, .inl (cA, (100, .inl f0))), (r1, .inr (0, [.ref a1, .int (nI L1.length)])), (a1, .inl (cA, (100, .inl f1))), (r2, .inr (0, [.ref a2, .int n2])), (a2, .inl (cA, (100, .inl f2))), (r3, .inr (0, [.ref a3, .int n3])), (a3, .inl (cA, (100, .inl f3))), (y0, .inr (2, [.int 1, .int (nI rn), .ref q1, .ref q2, .int mn, .ref q3, .ref q4, .int ct, .int il, .ref q5])), (q1, .inl (cA, (2, .inl sf))), (q2, .inl (cA, (60, .inl lf))), (q3, .inl (cA, (320, .inl rf))), (q4, .inl (cA, (320, .inl nf))), (q5, .inl (cA, (6, .inl gf))), (o, .inl (cL, (1, .inr (.inl fo))))] := hD
      refine lv_istore (lv' := [(6, .int 0), (5, .int 1), (4, .int (nI i)), (3, .ref o), (2, .ref y0), (1, .ref x0), (0, .ref b)]) hx hb dL_law_935 hl (by decide) rfl (fun ls hl => ?_)
      refine lv_aload_n hx hb dL_law_937 rfl (lv_at hl 4 rfl) ?_
      refine g_RVi (As := []) (rest := []) ⟨hx, hb, hml, hown, hts⟩ (mt_X2_thrown l dC dI cA H.size y0 q1 q2 q3 q4 q5 rn 1 sf lf mn rf nf ct il gf) (cwV 0 hts gL_law_X2_thrown rfl rfl rfl hdX2_thrown ⟨Nat.le_of_ble_eq_true rfl, Nat.le_of_ble_eq_true rfl⟩) hP hK hD [9, 10, 11, 12, 13, 14] (by decide) rfl (va_recv hK hP (ci := 2) (q0 := 9) rfl rfl) rfl hl.1 rfl (Nat.le_of_ble_eq_true rfl) dL_law_938 hc1 hs1 ?_
      refine lv_iload hx hb dL_law_941 (lv_at hl 1 rfl) ?_
      refine lv_icmp_eq (tgt := 948) hx hb dL_law_943 (by decide) (fun c943 => ?_) (fun c943 => ?_)
      · refine lv_iload hx hb dL_law_948 (lv_at hl 1 rfl) ?_
        refine lv_if_ne (tgt := 965) hx hb dL_law_950 (by decide) (fun c950 => ?_) (fun c950 => ?_)
        · have c950 : ¬ 1 = 0 := g_neT 1 0 (by omega) (by omega) c950
          refine lv_goto (tgt := 1241) hx hb dL_law_965 (by decide) ?_
          exact kk rn L0 L1 _ _ _ _ _ ⟨f0, f1, n2, f2, n3, f3, 1, sf, lf, mn, rf, nf, ct, il, gf, fo, hP, hD, hS, hR0, hR1, hl0, hl1, hrn, hr6, hk0, hk1, hW⟩ (by omega) (by omega) (lv_sub hl [2, 3, 4, 5, 6] rfl)
        · exact absurd c950 (by decide)
      · exact absurd (by decide) c943
    · rcases pk_ix (xs (i + 3)) (n := rn) (by omega) with hbad | hbad | ⟨rb, hrb, h3⟩
      · refine lv_aload_n hx hb dL_law_888 rfl (lv_at hl 3 rfl) ?_
        refine lv_aload_n hx hb dL_law_889 rfl (lv_at hl 4 rfl) ?_
        refine lv_iload hx hb dL_law_890 (lv_at hl 0 rfl) ?_
        refine lv_iconst (v := 1) hx hb dL_law_892 (by decide) ?_
        refine lv_iadd hx hb dL_law_893 ?_
        rw [show (nI i) + 1 = nI (i + 1) from nI_add i 1]
        refine va_sld hx hb hX hbl hbA hS (vp_in_nI (by omega) (by omega)) dL_law_894 ?_
        rw [show (nI (i + 1)).toNatClampNeg = i + 1 from nI_clamp (by omega)]
        rw [h1]
        refine lv_aload_n hx hb dL_law_895 rfl (lv_at hl 4 rfl) ?_
        refine lv_iload hx hb dL_law_896 (lv_at hl 0 rfl) ?_
        refine lv_iconst (v := 2) hx hb dL_law_898 (by decide) ?_
        refine lv_iadd hx hb dL_law_899 ?_
        rw [show (nI i) + 2 = nI (i + 2) from nI_add i 2]
        refine va_sld hx hb hX hbl hbA hS (vp_in_nI (by omega) (by omega)) dL_law_900 ?_
        rw [show (nI (i + 2)).toNatClampNeg = i + 2 from nI_clamp (by omega)]
        rw [h2]
        refine lv_aload_n hx hb dL_law_901 rfl (lv_at hl 4 rfl) ?_
        refine lv_iload hx hb dL_law_902 (lv_at hl 0 rfl) ?_
        refine lv_iconst (v := 3) hx hb dL_law_904 (by decide) ?_
        refine lv_iadd hx hb dL_law_905 ?_
        rw [show (nI i) + 3 = nI (i + 3) from nI_add i 3]
        refine va_sld hx hb hX hbl hbA hS (vp_in_nI (by omega) (by omega)) dL_law_906 ?_
        rw [show (nI (i + 3)).toNatClampNeg = i + 3 from nI_clamp (by omega)]
        refine lv_aload_n hx hb dL_law_907 rfl (lv_at hl 1 rfl) ?_
        refine g_LS (As := [.ref x0, .int (nI 1), .int (nI ra), .int (xs (i + 3)), .ref o]) (rest := []) ⟨hx, hb, hml, hown, hts⟩ (mt_L_crosses_1c_1 l htr dC dI cA cL H.size x0 r0 r1 r2 r3 rn (nI ra) (xs (i + 3)) o fo (nI_pos (by omega)) (nI_lt hra (by omega)) (Or.inl hbad)) (vx_cwSW 5 hts gL_law_L_crosses rfl rfl rfl hdL_crosses ⟨Nat.le_of_ble_eq_true rfl, Nat.le_of_ble_eq_true rfl⟩) hP hKl hD hS hA hZ [0, 15] (by decide) rfl rfl hl.1 rfl (Nat.le_of_ble_eq_true rfl) dL_law_908 hc1 hs1 (fun u9 => [(x0, .inr (1, [.ref r0, .ref r1, .ref r2, .ref r3, .int (nI rn)])), (r0, .inr (0, [.ref a0, .int (nI L0.length)])), (a0, .inl (cA, (100, .inl f0))), (r1, .inr (0, [.ref a1, .int (nI L1.length)])), (a1, .inl (cA, (100, .inl f1))), (r2, .inr (0, [.ref a2, .int n2])), (a2, .inl (cA, (100, .inl f2))), (r3, .inr (0, [.ref a3, .int n3])), (a3, .inl (cA, (100, .inl f3))), (y0, .inr (2, [.int tv, .int (nI rn), .ref q1, .ref q2, .int mn, .ref q3, .ref q4, .int ct, .int il, .ref q5])), (q1, .inl (cA, (2, .inl sf))), (q2, .inl (cA, (60, .inl lf))), (q3, .inl (cA, (320, .inl rf))), (q4, .inl (cA, (320, .inl nf))), (q5, .inl (cA, (6, .inl gf))), (o, .inl (cL, (1, .inr (.inl fo))))]) (fun _ => rfl) (fun _ => rfl) (fun u H locs hw_1 hP hD hS => ?_)
        have hP : va_P (dC, dI) vwCl [(x0, .inr (1, [.ref r0, .ref r1, .ref r2, .ref r3, .int (nI rn)])), (r0, .inr (0, [.ref a0, .int (nI L0.length)])), (a0, .inl (cA, (100, .inl f0))), (r1, .inr (0, [.ref a1, .int (nI L1.length)])), (a1, .inl (cA, (100, .inl f1))), (r2, .inr (0, [.ref a2, .int n2])), (a2, .inl (cA, (100, .inl f2))), (r3, .inr (0, [.ref a3, .int n3])), (a3, .inl (cA, (100, .inl f3))), (y0, .inr (2, [.int tv, .int (nI rn), .ref q1, .ref q2, .int mn, .ref q3, .ref q4, .int ct, .int il, .ref q5])), (q1, .inl (cA, (2, .inl sf))), (q2, .inl (cA, (60, .inl lf))), (q3, .inl (cA, (320, .inl rf))), (q4, .inl (cA, (320, .inl nf))), (q5, .inl (cA, (6, .inl gf))), (o, .inl (cL, (1, .inr (.inl fo))))] H := hP
        have hD : va_D A [(x0, .inr (1, [.ref r0, .ref r1, .ref r2, .ref r3, .int (nI rn)])), (r0, .inr (0, [.ref a0, .int (nI L0.length)])), (a0, .inl (cA, (100, .inl f0))), (r1, .inr (0, [.ref a1, .int (nI L1.length)])), (a1, .inl (cA, (100, .inl f1))), (r2, .inr (0, [.ref a2, .int n2])), (a2, .inl (cA, (100, .inl f2))), (r3, .inr (0, [.ref a3, .int n3])), (a3, .inl (cA, (100, .inl f3))), (y0, .inr (2, [.int tv, .int (nI rn), .ref q1, .ref q2, .int mn, .ref q3, .ref q4, .int ct, .int il, .ref q5])), (q1, .inl (cA, (2, .inl sf))), (q2, .inl (cA, (60, .inl lf))), (q3, .inl (cA, (320, .inl rf))), (q4, .inl (cA, (320, .inl nf))), (q5, .inl (cA, (6, .inl gf))), (o, .inl (cL, (1, .inr (.inl fo))))] := hD
        refine lv_istore (lv' := [(5, .int 1), (4, .int (nI i)), (3, .ref o), (2, .ref y0), (1, .ref x0), (0, .ref b)]) hx hb dL_law_911 hl (by decide) rfl (fun ls hl => ?_)
        refine lv_aload_n hx hb dL_law_913 rfl (lv_at hl 3 rfl) ?_
        refine lv_aload_n hx hb dL_law_914 rfl (lv_at hl 5 rfl) ?_
        refine lv_iload hx hb dL_law_915 (lv_at hl 1 rfl) ?_
        refine lv_iconst (v := 1) hx hb dL_law_917 (by decide) ?_
        refine lv_iadd hx hb dL_law_918 ?_
        rw [show (nI i) + 1 = nI (i + 1) from nI_add i 1]
        refine va_sld hx hb hX hbl hbA hS (vp_in_nI (by omega) (by omega)) dL_law_919 ?_
        rw [show (nI (i + 1)).toNatClampNeg = i + 1 from nI_clamp (by omega)]
        rw [h1]
        refine lv_aload_n hx hb dL_law_920 rfl (lv_at hl 5 rfl) ?_
        refine lv_iload hx hb dL_law_921 (lv_at hl 1 rfl) ?_
        refine lv_iconst (v := 2) hx hb dL_law_923 (by decide) ?_
        refine lv_iadd hx hb dL_law_924 ?_
        rw [show (nI i) + 2 = nI (i + 2) from nI_add i 2]
        refine va_sld hx hb hX hbl hbA hS (vp_in_nI (by omega) (by omega)) dL_law_925 ?_
        rw [show (nI (i + 2)).toNatClampNeg = i + 2 from nI_clamp (by omega)]
        rw [h2]
        refine lv_aload_n hx hb dL_law_926 rfl (lv_at hl 5 rfl) ?_
        refine lv_iload hx hb dL_law_927 (lv_at hl 1 rfl) ?_
        refine lv_iconst (v := 3) hx hb dL_law_929 (by decide) ?_
        refine lv_iadd hx hb dL_law_930 ?_
        rw [show (nI i) + 3 = nI (i + 3) from nI_add i 3]
        refine va_sld hx hb hX hbl hbA hS (vp_in_nI (by omega) (by omega)) dL_law_931 ?_
        rw [show (nI (i + 3)).toNatClampNeg = i + 3 from nI_clamp (by omega)]
        refine g_MVi (As := [.int (nI 1), .int (nI ra), .int (xs (i + 3))]) (rest := []) ⟨hx, hb, hml, hown, hts⟩ (mt_X2_crosses_1c l dC dI cA H.size y0 q1 q2 q3 q4 q5 rn tv sf lf mn rf nf ct il gf 1 ra (xs (i + 3)) (by omega) hr6 hra (Or.inl hbad)) (cwV 3 hts gL_law_X2_crosses rfl rfl rfl hdX2_crosses ⟨Nat.le_of_ble_eq_true rfl, Nat.le_of_ble_eq_true rfl⟩) hP hK hD hS hA [9, 10, 11, 12, 13, 14] (by decide) rfl (va_recv hK hP (ci := 2) (q0 := 9) rfl rfl) rfl hl.1 rfl (Nat.le_of_ble_eq_true rfl) dL_law_932 hc1 hs1 (fun u9 => [(x0, .inr (1, [.ref r0, .ref r1, .ref r2, .ref r3, .int (nI rn)])), (r0, .inr (0, [.ref a0, .int (nI L0.length)])), (a0, .inl (cA, (100, .inl f0))), (r1, .inr (0, [.ref a1, .int (nI L1.length)])), (a1, .inl (cA, (100, .inl f1))), (r2, .inr (0, [.ref a2, .int n2])), (a2, .inl (cA, (100, .inl f2))), (r3, .inr (0, [.ref a3, .int n3])), (a3, .inl (cA, (100, .inl f3))), (y0, .inr (2, [.int 1, .int (nI rn), .ref q1, .ref q2, .int mn, .ref q3, .ref q4, .int ct, .int il, .ref q5])), (q1, .inl (cA, (2, .inl sf))), (q2, .inl (cA, (60, .inl lf))), (q3, .inl (cA, (320, .inl rf))), (q4, .inl (cA, (320, .inl nf))), (q5, .inl (cA, (6, .inl gf))), (o, .inl (cL, (1, .inr (.inl fo))))]) (fun _ => rfl) (fun _ => rfl) (fun u H locs hw_2 hP hD hS => ?_)
        have hw_2 : True := hw_2
        have hP : va_P (dC, dI) vwCl [(x0, .inr (1, [.ref r0, .ref r1, .ref r2, .ref r3, .int (nI rn)])), (r0, .inr (0, [.ref a0, .int (nI L0.length)])), (a0, .inl (cA, (100, .inl f0))), (r1, .inr (0, [.ref a1, .int (nI L1.length)])), (a1, .inl (cA, (100, .inl f1))), (r2, .inr (0, [.ref a2, .int n2])), (a2, .inl (cA, (100, .inl f2))), (r3, .inr (0, [.ref a3, .int n3])), (a3, .inl (cA, (100, .inl f3))), (y0, .inr (2, [.int 1, .int (nI rn), .ref q1, .ref q2, .int mn, .ref q3, .ref q4, .int ct, .int il, .ref q5])), (q1, .inl (cA, (2, .inl sf))), (q2, .inl (cA, (60, .inl lf))), (q3, .inl (cA, (320, .inl rf))), (q4, .inl (cA, (320, .inl nf))), (q5, .inl (cA, (6, .inl gf))), (o, .inl (cL, (1, .inr (.inl fo))))] H := hP
        have hD : va_D A [(x0, .inr (1, [.ref r0, .ref r1, .ref r2, .ref r3, .int (nI rn)])), (r0, .inr (0, [.ref a0, .int (nI L0.length)])), (a0, .inl (cA, (100, .inl f0))), (r1, .inr (0, [.ref a1, .int (nI L1.length)])), (a1, .inl (cA, (100, .inl f1))), (r2, .inr (0, [.ref a2, .int n2])), (a2, .inl (cA, (100, .inl f2))), (r3, .inr (0, [.ref a3, .int n3])), (a3, .inl (cA, (100, .inl f3))), (y0, .inr (2, [.int 1, .int (nI rn), .ref q1, .ref q2, .int mn, .ref q3, .ref q4, .int ct, .int il, .ref q5])), (q1, .inl (cA, (2, .inl sf))), (q2, .inl (cA, (60, .inl lf))), (q3, .inl (cA, (320, .inl rf))), (q4, .inl (cA, (320, .inl nf))), (q5, .inl (cA, (6, .inl gf))), (o, .inl (cL, (1, .inr (.inl fo))))] := hD
        refine lv_istore (lv' := [(6, .int 0), (5, .int 1), (4, .int (nI i)), (3, .ref o), (2, .ref y0), (1, .ref x0), (0, .ref b)]) hx hb dL_law_935 hl (by decide) rfl (fun ls hl => ?_)
        refine lv_aload_n hx hb dL_law_937 rfl (lv_at hl 4 rfl) ?_
        refine g_RVi (As := []) (rest := []) ⟨hx, hb, hml, hown, hts⟩ (mt_X2_thrown l dC dI cA H.size y0 q1 q2 q3 q4 q5 rn 1 sf lf mn rf nf ct il gf) (cwV 0 hts gL_law_X2_thrown rfl rfl rfl hdX2_thrown ⟨Nat.le_of_ble_eq_true rfl, Nat.le_of_ble_eq_true rfl⟩) hP hK hD [9, 10, 11, 12, 13, 14] (by decide) rfl (va_recv hK hP (ci := 2) (q0 := 9) rfl rfl) rfl hl.1 rfl (Nat.le_of_ble_eq_true rfl) dL_law_938 hc1 hs1 ?_
        refine lv_iload hx hb dL_law_941 (lv_at hl 1 rfl) ?_
        refine lv_icmp_eq (tgt := 948) hx hb dL_law_943 (by decide) (fun c943 => ?_) (fun c943 => ?_)
        · refine lv_iload hx hb dL_law_948 (lv_at hl 1 rfl) ?_
          refine lv_if_ne (tgt := 965) hx hb dL_law_950 (by decide) (fun c950 => ?_) (fun c950 => ?_)
          · have c950 : ¬ 1 = 0 := g_neT 1 0 (by omega) (by omega) c950
            refine lv_goto (tgt := 1241) hx hb dL_law_965 (by decide) ?_
            exact kk rn L0 L1 _ _ _ _ _ ⟨f0, f1, n2, f2, n3, f3, 1, sf, lf, mn, rf, nf, ct, il, gf, fo, hP, hD, hS, hR0, hR1, hl0, hl1, hrn, hr6, hk0, hk1, hW⟩ (by omega) (by omega) (lv_sub hl [2, 3, 4, 5, 6] rfl)
          · exact absurd c950 (by decide)
        · exact absurd (by decide) c943
      · refine lv_aload_n hx hb dL_law_888 rfl (lv_at hl 3 rfl) ?_
        refine lv_aload_n hx hb dL_law_889 rfl (lv_at hl 4 rfl) ?_
        refine lv_iload hx hb dL_law_890 (lv_at hl 0 rfl) ?_
        refine lv_iconst (v := 1) hx hb dL_law_892 (by decide) ?_
        refine lv_iadd hx hb dL_law_893 ?_
        rw [show (nI i) + 1 = nI (i + 1) from nI_add i 1]
        refine va_sld hx hb hX hbl hbA hS (vp_in_nI (by omega) (by omega)) dL_law_894 ?_
        rw [show (nI (i + 1)).toNatClampNeg = i + 1 from nI_clamp (by omega)]
        rw [h1]
        refine lv_aload_n hx hb dL_law_895 rfl (lv_at hl 4 rfl) ?_
        refine lv_iload hx hb dL_law_896 (lv_at hl 0 rfl) ?_
        refine lv_iconst (v := 2) hx hb dL_law_898 (by decide) ?_
        refine lv_iadd hx hb dL_law_899 ?_
        rw [show (nI i) + 2 = nI (i + 2) from nI_add i 2]
        refine va_sld hx hb hX hbl hbA hS (vp_in_nI (by omega) (by omega)) dL_law_900 ?_
        rw [show (nI (i + 2)).toNatClampNeg = i + 2 from nI_clamp (by omega)]
        rw [h2]
        refine lv_aload_n hx hb dL_law_901 rfl (lv_at hl 4 rfl) ?_
        refine lv_iload hx hb dL_law_902 (lv_at hl 0 rfl) ?_
        refine lv_iconst (v := 3) hx hb dL_law_904 (by decide) ?_
        refine lv_iadd hx hb dL_law_905 ?_
        rw [show (nI i) + 3 = nI (i + 3) from nI_add i 3]
        refine va_sld hx hb hX hbl hbA hS (vp_in_nI (by omega) (by omega)) dL_law_906 ?_
        rw [show (nI (i + 3)).toNatClampNeg = i + 3 from nI_clamp (by omega)]
        refine lv_aload_n hx hb dL_law_907 rfl (lv_at hl 1 rfl) ?_
        refine g_LS (As := [.ref x0, .int (nI 1), .int (nI ra), .int (xs (i + 3)), .ref o]) (rest := []) ⟨hx, hb, hml, hown, hts⟩ (mt_L_crosses_1c_1 l htr dC dI cA cL H.size x0 r0 r1 r2 r3 rn (nI ra) (xs (i + 3)) o fo (nI_pos (by omega)) (nI_lt hra (by omega)) (Or.inr hbad)) (vx_cwSW 5 hts gL_law_L_crosses rfl rfl rfl hdL_crosses ⟨Nat.le_of_ble_eq_true rfl, Nat.le_of_ble_eq_true rfl⟩) hP hKl hD hS hA hZ [0, 15] (by decide) rfl rfl hl.1 rfl (Nat.le_of_ble_eq_true rfl) dL_law_908 hc1 hs1 (fun u9 => [(x0, .inr (1, [.ref r0, .ref r1, .ref r2, .ref r3, .int (nI rn)])), (r0, .inr (0, [.ref a0, .int (nI L0.length)])), (a0, .inl (cA, (100, .inl f0))), (r1, .inr (0, [.ref a1, .int (nI L1.length)])), (a1, .inl (cA, (100, .inl f1))), (r2, .inr (0, [.ref a2, .int n2])), (a2, .inl (cA, (100, .inl f2))), (r3, .inr (0, [.ref a3, .int n3])), (a3, .inl (cA, (100, .inl f3))), (y0, .inr (2, [.int tv, .int (nI rn), .ref q1, .ref q2, .int mn, .ref q3, .ref q4, .int ct, .int il, .ref q5])), (q1, .inl (cA, (2, .inl sf))), (q2, .inl (cA, (60, .inl lf))), (q3, .inl (cA, (320, .inl rf))), (q4, .inl (cA, (320, .inl nf))), (q5, .inl (cA, (6, .inl gf))), (o, .inl (cL, (1, .inr (.inl fo))))]) (fun _ => rfl) (fun _ => rfl) (fun u H locs hw_1 hP hD hS => ?_)
        have hP : va_P (dC, dI) vwCl [(x0, .inr (1, [.ref r0, .ref r1, .ref r2, .ref r3, .int (nI rn)])), (r0, .inr (0, [.ref a0, .int (nI L0.length)])), (a0, .inl (cA, (100, .inl f0))), (r1, .inr (0, [.ref a1, .int (nI L1.length)])), (a1, .inl (cA, (100, .inl f1))), (r2, .inr (0, [.ref a2, .int n2])), (a2, .inl (cA, (100, .inl f2))), (r3, .inr (0, [.ref a3, .int n3])), (a3, .inl (cA, (100, .inl f3))), (y0, .inr (2, [.int tv, .int (nI rn), .ref q1, .ref q2, .int mn, .ref q3, .ref q4, .int ct, .int il, .ref q5])), (q1, .inl (cA, (2, .inl sf))), (q2, .inl (cA, (60, .inl lf))), (q3, .inl (cA, (320, .inl rf))), (q4, .inl (cA, (320, .inl nf))), (q5, .inl (cA, (6, .inl gf))), (o, .inl (cL, (1, .inr (.inl fo))))] H := hP
        have hD : va_D A [(x0, .inr (1, [.ref r0, .ref r1, .ref r2, .ref r3, .int (nI rn)])), (r0, .inr (0, [.ref a0, .int (nI L0.length)])), (a0, .inl (cA, (100, .inl f0))), (r1, .inr (0, [.ref a1, .int (nI L1.length)])), (a1, .inl (cA, (100, .inl f1))), (r2, .inr (0, [.ref a2, .int n2])), (a2, .inl (cA, (100, .inl f2))), (r3, .inr (0, [.ref a3, .int n3])), (a3, .inl (cA, (100, .inl f3))), (y0, .inr (2, [.int tv, .int (nI rn), .ref q1, .ref q2, .int mn, .ref q3, .ref q4, .int ct, .int il, .ref q5])), (q1, .inl (cA, (2, .inl sf))), (q2, .inl (cA, (60, .inl lf))), (q3, .inl (cA, (320, .inl rf))), (q4, .inl (cA, (320, .inl nf))), (q5, .inl (cA, (6, .inl gf))), (o, .inl (cL, (1, .inr (.inl fo))))] := hD
        refine lv_istore (lv' := [(5, .int 1), (4, .int (nI i)), (3, .ref o), (2, .ref y0), (1, .ref x0), (0, .ref b)]) hx hb dL_law_911 hl (by decide) rfl (fun ls hl => ?_)
        refine lv_aload_n hx hb dL_law_913 rfl (lv_at hl 3 rfl) ?_
        refine lv_aload_n hx hb dL_law_914 rfl (lv_at hl 5 rfl) ?_
        refine lv_iload hx hb dL_law_915 (lv_at hl 1 rfl) ?_
        refine lv_iconst (v := 1) hx hb dL_law_917 (by decide) ?_
        refine lv_iadd hx hb dL_law_918 ?_
        rw [show (nI i) + 1 = nI (i + 1) from nI_add i 1]
        refine va_sld hx hb hX hbl hbA hS (vp_in_nI (by omega) (by omega)) dL_law_919 ?_
        rw [show (nI (i + 1)).toNatClampNeg = i + 1 from nI_clamp (by omega)]
        rw [h1]
        refine lv_aload_n hx hb dL_law_920 rfl (lv_at hl 5 rfl) ?_
        refine lv_iload hx hb dL_law_921 (lv_at hl 1 rfl) ?_
        refine lv_iconst (v := 2) hx hb dL_law_923 (by decide) ?_
        refine lv_iadd hx hb dL_law_924 ?_
        rw [show (nI i) + 2 = nI (i + 2) from nI_add i 2]
        refine va_sld hx hb hX hbl hbA hS (vp_in_nI (by omega) (by omega)) dL_law_925 ?_
        rw [show (nI (i + 2)).toNatClampNeg = i + 2 from nI_clamp (by omega)]
        rw [h2]
        refine lv_aload_n hx hb dL_law_926 rfl (lv_at hl 5 rfl) ?_
        refine lv_iload hx hb dL_law_927 (lv_at hl 1 rfl) ?_
        refine lv_iconst (v := 3) hx hb dL_law_929 (by decide) ?_
        refine lv_iadd hx hb dL_law_930 ?_
        rw [show (nI i) + 3 = nI (i + 3) from nI_add i 3]
        refine va_sld hx hb hX hbl hbA hS (vp_in_nI (by omega) (by omega)) dL_law_931 ?_
        rw [show (nI (i + 3)).toNatClampNeg = i + 3 from nI_clamp (by omega)]
        refine g_MVi (As := [.int (nI 1), .int (nI ra), .int (xs (i + 3))]) (rest := []) ⟨hx, hb, hml, hown, hts⟩ (mt_X2_crosses_1c l dC dI cA H.size y0 q1 q2 q3 q4 q5 rn tv sf lf mn rf nf ct il gf 1 ra (xs (i + 3)) (by omega) hr6 hra (Or.inr hbad)) (cwV 3 hts gL_law_X2_crosses rfl rfl rfl hdX2_crosses ⟨Nat.le_of_ble_eq_true rfl, Nat.le_of_ble_eq_true rfl⟩) hP hK hD hS hA [9, 10, 11, 12, 13, 14] (by decide) rfl (va_recv hK hP (ci := 2) (q0 := 9) rfl rfl) rfl hl.1 rfl (Nat.le_of_ble_eq_true rfl) dL_law_932 hc1 hs1 (fun u9 => [(x0, .inr (1, [.ref r0, .ref r1, .ref r2, .ref r3, .int (nI rn)])), (r0, .inr (0, [.ref a0, .int (nI L0.length)])), (a0, .inl (cA, (100, .inl f0))), (r1, .inr (0, [.ref a1, .int (nI L1.length)])), (a1, .inl (cA, (100, .inl f1))), (r2, .inr (0, [.ref a2, .int n2])), (a2, .inl (cA, (100, .inl f2))), (r3, .inr (0, [.ref a3, .int n3])), (a3, .inl (cA, (100, .inl f3))), (y0, .inr (2, [.int 1, .int (nI rn), .ref q1, .ref q2, .int mn, .ref q3, .ref q4, .int ct, .int il, .ref q5])), (q1, .inl (cA, (2, .inl sf))), (q2, .inl (cA, (60, .inl lf))), (q3, .inl (cA, (320, .inl rf))), (q4, .inl (cA, (320, .inl nf))), (q5, .inl (cA, (6, .inl gf))), (o, .inl (cL, (1, .inr (.inl fo))))]) (fun _ => rfl) (fun _ => rfl) (fun u H locs hw_2 hP hD hS => ?_)
        have hw_2 : True := hw_2
        have hP : va_P (dC, dI) vwCl [(x0, .inr (1, [.ref r0, .ref r1, .ref r2, .ref r3, .int (nI rn)])), (r0, .inr (0, [.ref a0, .int (nI L0.length)])), (a0, .inl (cA, (100, .inl f0))), (r1, .inr (0, [.ref a1, .int (nI L1.length)])), (a1, .inl (cA, (100, .inl f1))), (r2, .inr (0, [.ref a2, .int n2])), (a2, .inl (cA, (100, .inl f2))), (r3, .inr (0, [.ref a3, .int n3])), (a3, .inl (cA, (100, .inl f3))), (y0, .inr (2, [.int 1, .int (nI rn), .ref q1, .ref q2, .int mn, .ref q3, .ref q4, .int ct, .int il, .ref q5])), (q1, .inl (cA, (2, .inl sf))), (q2, .inl (cA, (60, .inl lf))), (q3, .inl (cA, (320, .inl rf))), (q4, .inl (cA, (320, .inl nf))), (q5, .inl (cA, (6, .inl gf))), (o, .inl (cL, (1, .inr (.inl fo))))] H := hP
        have hD : va_D A [(x0, .inr (1, [.ref r0, .ref r1, .ref r2, .ref r3, .int (nI rn)])), (r0, .inr (0, [.ref a0, .int (nI L0.length)])), (a0, .inl (cA, (100, .inl f0))), (r1, .inr (0, [.ref a1, .int (nI L1.length)])), (a1, .inl (cA, (100, .inl f1))), (r2, .inr (0, [.ref a2, .int n2])), (a2, .inl (cA, (100, .inl f2))), (r3, .inr (0, [.ref a3, .int n3])), (a3, .inl (cA, (100, .inl f3))), (y0, .inr (2, [.int 1, .int (nI rn), .ref q1, .ref q2, .int mn, .ref q3, .ref q4, .int ct, .int il, .ref q5])), (q1, .inl (cA, (2, .inl sf))), (q2, .inl (cA, (60, .inl lf))), (q3, .inl (cA, (320, .inl rf))), (q4, .inl (cA, (320, .inl nf))), (q5, .inl (cA, (6, .inl gf))), (o, .inl (cL, (1, .inr (.inl fo))))] := hD
        refine lv_istore (lv' := [(6, .int 0), (5, .int 1), (4, .int (nI i)), (3, .ref o), (2, .ref y0), (1, .ref x0), (0, .ref b)]) hx hb dL_law_935 hl (by decide) rfl (fun ls hl => ?_)
        refine lv_aload_n hx hb dL_law_937 rfl (lv_at hl 4 rfl) ?_
        refine g_RVi (As := []) (rest := []) ⟨hx, hb, hml, hown, hts⟩ (mt_X2_thrown l dC dI cA H.size y0 q1 q2 q3 q4 q5 rn 1 sf lf mn rf nf ct il gf) (cwV 0 hts gL_law_X2_thrown rfl rfl rfl hdX2_thrown ⟨Nat.le_of_ble_eq_true rfl, Nat.le_of_ble_eq_true rfl⟩) hP hK hD [9, 10, 11, 12, 13, 14] (by decide) rfl (va_recv hK hP (ci := 2) (q0 := 9) rfl rfl) rfl hl.1 rfl (Nat.le_of_ble_eq_true rfl) dL_law_938 hc1 hs1 ?_
        refine lv_iload hx hb dL_law_941 (lv_at hl 1 rfl) ?_
        refine lv_icmp_eq (tgt := 948) hx hb dL_law_943 (by decide) (fun c943 => ?_) (fun c943 => ?_)
        · refine lv_iload hx hb dL_law_948 (lv_at hl 1 rfl) ?_
          refine lv_if_ne (tgt := 965) hx hb dL_law_950 (by decide) (fun c950 => ?_) (fun c950 => ?_)
          · have c950 : ¬ 1 = 0 := g_neT 1 0 (by omega) (by omega) c950
            refine lv_goto (tgt := 1241) hx hb dL_law_965 (by decide) ?_
            exact kk rn L0 L1 _ _ _ _ _ ⟨f0, f1, n2, f2, n3, f3, 1, sf, lf, mn, rf, nf, ct, il, gf, fo, hP, hD, hS, hR0, hR1, hl0, hl1, hrn, hr6, hk0, hk1, hW⟩ (by omega) (by omega) (lv_sub hl [2, 3, 4, 5, 6] rfl)
          · exact absurd c950 (by decide)
        · exact absurd (by decide) c943
      · by_cases hab : ra = rb
        · subst hab
          refine lv_aload_n hx hb dL_law_888 rfl (lv_at hl 3 rfl) ?_
          refine lv_aload_n hx hb dL_law_889 rfl (lv_at hl 4 rfl) ?_
          refine lv_iload hx hb dL_law_890 (lv_at hl 0 rfl) ?_
          refine lv_iconst (v := 1) hx hb dL_law_892 (by decide) ?_
          refine lv_iadd hx hb dL_law_893 ?_
          rw [show (nI i) + 1 = nI (i + 1) from nI_add i 1]
          refine va_sld hx hb hX hbl hbA hS (vp_in_nI (by omega) (by omega)) dL_law_894 ?_
          rw [show (nI (i + 1)).toNatClampNeg = i + 1 from nI_clamp (by omega)]
          rw [h1]
          refine lv_aload_n hx hb dL_law_895 rfl (lv_at hl 4 rfl) ?_
          refine lv_iload hx hb dL_law_896 (lv_at hl 0 rfl) ?_
          refine lv_iconst (v := 2) hx hb dL_law_898 (by decide) ?_
          refine lv_iadd hx hb dL_law_899 ?_
          rw [show (nI i) + 2 = nI (i + 2) from nI_add i 2]
          refine va_sld hx hb hX hbl hbA hS (vp_in_nI (by omega) (by omega)) dL_law_900 ?_
          rw [show (nI (i + 2)).toNatClampNeg = i + 2 from nI_clamp (by omega)]
          rw [h2]
          refine lv_aload_n hx hb dL_law_901 rfl (lv_at hl 4 rfl) ?_
          refine lv_iload hx hb dL_law_902 (lv_at hl 0 rfl) ?_
          refine lv_iconst (v := 3) hx hb dL_law_904 (by decide) ?_
          refine lv_iadd hx hb dL_law_905 ?_
          rw [show (nI i) + 3 = nI (i + 3) from nI_add i 3]
          refine va_sld hx hb hX hbl hbA hS (vp_in_nI (by omega) (by omega)) dL_law_906 ?_
          rw [show (nI (i + 3)).toNatClampNeg = i + 3 from nI_clamp (by omega)]
          rw [h3]
          refine lv_aload_n hx hb dL_law_907 rfl (lv_at hl 1 rfl) ?_
          refine g_LS (As := [.ref x0, .int (nI 1), .int (nI ra), .int (nI ra), .ref o]) (rest := []) ⟨hx, hb, hml, hown, hts⟩ (mt_L_crosses_2_1 l htr dC dI cA cL H.size x0 r0 r1 r2 r3 rn (nI ra) (nI ra) o fo (nI_pos (by omega)) (nI_lt hra (by omega)) (nI_pos (by omega)) (nI_lt hra (by omega)) rfl) (vx_cwSW 5 hts gL_law_L_crosses rfl rfl rfl hdL_crosses ⟨Nat.le_of_ble_eq_true rfl, Nat.le_of_ble_eq_true rfl⟩) hP hKl hD hS hA hZ [0, 15] (by decide) rfl rfl hl.1 rfl (Nat.le_of_ble_eq_true rfl) dL_law_908 hc1 hs1 (fun u9 => [(x0, .inr (1, [.ref r0, .ref r1, .ref r2, .ref r3, .int (nI rn)])), (r0, .inr (0, [.ref a0, .int (nI L0.length)])), (a0, .inl (cA, (100, .inl f0))), (r1, .inr (0, [.ref a1, .int (nI L1.length)])), (a1, .inl (cA, (100, .inl f1))), (r2, .inr (0, [.ref a2, .int n2])), (a2, .inl (cA, (100, .inl f2))), (r3, .inr (0, [.ref a3, .int n3])), (a3, .inl (cA, (100, .inl f3))), (y0, .inr (2, [.int tv, .int (nI rn), .ref q1, .ref q2, .int mn, .ref q3, .ref q4, .int ct, .int il, .ref q5])), (q1, .inl (cA, (2, .inl sf))), (q2, .inl (cA, (60, .inl lf))), (q3, .inl (cA, (320, .inl rf))), (q4, .inl (cA, (320, .inl nf))), (q5, .inl (cA, (6, .inl gf))), (o, .inl (cL, (1, .inr (.inl fo))))]) (fun _ => rfl) (fun _ => rfl) (fun u H locs hw_1 hP hD hS => ?_)
          have hP : va_P (dC, dI) vwCl [(x0, .inr (1, [.ref r0, .ref r1, .ref r2, .ref r3, .int (nI rn)])), (r0, .inr (0, [.ref a0, .int (nI L0.length)])), (a0, .inl (cA, (100, .inl f0))), (r1, .inr (0, [.ref a1, .int (nI L1.length)])), (a1, .inl (cA, (100, .inl f1))), (r2, .inr (0, [.ref a2, .int n2])), (a2, .inl (cA, (100, .inl f2))), (r3, .inr (0, [.ref a3, .int n3])), (a3, .inl (cA, (100, .inl f3))), (y0, .inr (2, [.int tv, .int (nI rn), .ref q1, .ref q2, .int mn, .ref q3, .ref q4, .int ct, .int il, .ref q5])), (q1, .inl (cA, (2, .inl sf))), (q2, .inl (cA, (60, .inl lf))), (q3, .inl (cA, (320, .inl rf))), (q4, .inl (cA, (320, .inl nf))), (q5, .inl (cA, (6, .inl gf))), (o, .inl (cL, (1, .inr (.inl fo))))] H := hP
          have hD : va_D A [(x0, .inr (1, [.ref r0, .ref r1, .ref r2, .ref r3, .int (nI rn)])), (r0, .inr (0, [.ref a0, .int (nI L0.length)])), (a0, .inl (cA, (100, .inl f0))), (r1, .inr (0, [.ref a1, .int (nI L1.length)])), (a1, .inl (cA, (100, .inl f1))), (r2, .inr (0, [.ref a2, .int n2])), (a2, .inl (cA, (100, .inl f2))), (r3, .inr (0, [.ref a3, .int n3])), (a3, .inl (cA, (100, .inl f3))), (y0, .inr (2, [.int tv, .int (nI rn), .ref q1, .ref q2, .int mn, .ref q3, .ref q4, .int ct, .int il, .ref q5])), (q1, .inl (cA, (2, .inl sf))), (q2, .inl (cA, (60, .inl lf))), (q3, .inl (cA, (320, .inl rf))), (q4, .inl (cA, (320, .inl nf))), (q5, .inl (cA, (6, .inl gf))), (o, .inl (cL, (1, .inr (.inl fo))))] := hD
          refine lv_istore (lv' := [(5, .int 2), (4, .int (nI i)), (3, .ref o), (2, .ref y0), (1, .ref x0), (0, .ref b)]) hx hb dL_law_911 hl (by decide) rfl (fun ls hl => ?_)
          refine lv_aload_n hx hb dL_law_913 rfl (lv_at hl 3 rfl) ?_
          refine lv_aload_n hx hb dL_law_914 rfl (lv_at hl 5 rfl) ?_
          refine lv_iload hx hb dL_law_915 (lv_at hl 1 rfl) ?_
          refine lv_iconst (v := 1) hx hb dL_law_917 (by decide) ?_
          refine lv_iadd hx hb dL_law_918 ?_
          rw [show (nI i) + 1 = nI (i + 1) from nI_add i 1]
          refine va_sld hx hb hX hbl hbA hS (vp_in_nI (by omega) (by omega)) dL_law_919 ?_
          rw [show (nI (i + 1)).toNatClampNeg = i + 1 from nI_clamp (by omega)]
          rw [h1]
          refine lv_aload_n hx hb dL_law_920 rfl (lv_at hl 5 rfl) ?_
          refine lv_iload hx hb dL_law_921 (lv_at hl 1 rfl) ?_
          refine lv_iconst (v := 2) hx hb dL_law_923 (by decide) ?_
          refine lv_iadd hx hb dL_law_924 ?_
          rw [show (nI i) + 2 = nI (i + 2) from nI_add i 2]
          refine va_sld hx hb hX hbl hbA hS (vp_in_nI (by omega) (by omega)) dL_law_925 ?_
          rw [show (nI (i + 2)).toNatClampNeg = i + 2 from nI_clamp (by omega)]
          rw [h2]
          refine lv_aload_n hx hb dL_law_926 rfl (lv_at hl 5 rfl) ?_
          refine lv_iload hx hb dL_law_927 (lv_at hl 1 rfl) ?_
          refine lv_iconst (v := 3) hx hb dL_law_929 (by decide) ?_
          refine lv_iadd hx hb dL_law_930 ?_
          rw [show (nI i) + 3 = nI (i + 3) from nI_add i 3]
          refine va_sld hx hb hX hbl hbA hS (vp_in_nI (by omega) (by omega)) dL_law_931 ?_
          rw [show (nI (i + 3)).toNatClampNeg = i + 3 from nI_clamp (by omega)]
          rw [h3]
          refine g_MVi (As := [.int (nI 1), .int (nI ra), .int (nI ra)]) (rest := []) ⟨hx, hb, hml, hown, hts⟩ (mt_X2_crosses_2 l dC dI cA H.size y0 q1 q2 q3 q4 q5 rn tv sf lf mn rf nf ct il gf 1 ra (by omega) hr6 hra) (cwV 3 hts gL_law_X2_crosses rfl rfl rfl hdX2_crosses ⟨Nat.le_of_ble_eq_true rfl, Nat.le_of_ble_eq_true rfl⟩) hP hK hD hS hA [9, 10, 11, 12, 13, 14] (by decide) rfl (va_recv hK hP (ci := 2) (q0 := 9) rfl rfl) rfl hl.1 rfl (Nat.le_of_ble_eq_true rfl) dL_law_932 hc1 hs1 (fun u9 => [(x0, .inr (1, [.ref r0, .ref r1, .ref r2, .ref r3, .int (nI rn)])), (r0, .inr (0, [.ref a0, .int (nI L0.length)])), (a0, .inl (cA, (100, .inl f0))), (r1, .inr (0, [.ref a1, .int (nI L1.length)])), (a1, .inl (cA, (100, .inl f1))), (r2, .inr (0, [.ref a2, .int n2])), (a2, .inl (cA, (100, .inl f2))), (r3, .inr (0, [.ref a3, .int n3])), (a3, .inl (cA, (100, .inl f3))), (y0, .inr (2, [.int 2, .int (nI rn), .ref q1, .ref q2, .int mn, .ref q3, .ref q4, .int ct, .int il, .ref q5])), (q1, .inl (cA, (2, .inl sf))), (q2, .inl (cA, (60, .inl lf))), (q3, .inl (cA, (320, .inl rf))), (q4, .inl (cA, (320, .inl nf))), (q5, .inl (cA, (6, .inl gf))), (o, .inl (cL, (1, .inr (.inl fo))))]) (fun _ => rfl) (fun _ => rfl) (fun u H locs hw_2 hP hD hS => ?_)
          have hw_2 : True := hw_2
          have hP : va_P (dC, dI) vwCl [(x0, .inr (1, [.ref r0, .ref r1, .ref r2, .ref r3, .int (nI rn)])), (r0, .inr (0, [.ref a0, .int (nI L0.length)])), (a0, .inl (cA, (100, .inl f0))), (r1, .inr (0, [.ref a1, .int (nI L1.length)])), (a1, .inl (cA, (100, .inl f1))), (r2, .inr (0, [.ref a2, .int n2])), (a2, .inl (cA, (100, .inl f2))), (r3, .inr (0, [.ref a3, .int n3])), (a3, .inl (cA, (100, .inl f3))), (y0, .inr (2, [.int 2, .int (nI rn), .ref q1, .ref q2, .int mn, .ref q3, .ref q4, .int ct, .int il, .ref q5])), (q1, .inl (cA, (2, .inl sf))), (q2, .inl (cA, (60, .inl lf))), (q3, .inl (cA, (320, .inl rf))), (q4, .inl (cA, (320, .inl nf))), (q5, .inl (cA, (6, .inl gf))), (o, .inl (cL, (1, .inr (.inl fo))))] H := hP
          have hD : va_D A [(x0, .inr (1, [.ref r0, .ref r1, .ref r2, .ref r3, .int (nI rn)])), (r0, .inr (0, [.ref a0, .int (nI L0.length)])), (a0, .inl (cA, (100, .inl f0))), (r1, .inr (0, [.ref a1, .int (nI L1.length)])), (a1, .inl (cA, (100, .inl f1))), (r2, .inr (0, [.ref a2, .int n2])), (a2, .inl (cA, (100, .inl f2))), (r3, .inr (0, [.ref a3, .int n3])), (a3, .inl (cA, (100, .inl f3))), (y0, .inr (2, [.int 2, .int (nI rn), .ref q1, .ref q2, .int mn, .ref q3, .ref q4, .int ct, .int il, .ref q5])), (q1, .inl (cA, (2, .inl sf))), (q2, .inl (cA, (60, .inl lf))), (q3, .inl (cA, (320, .inl rf))), (q4, .inl (cA, (320, .inl nf))), (q5, .inl (cA, (6, .inl gf))), (o, .inl (cL, (1, .inr (.inl fo))))] := hD
          refine lv_istore (lv' := [(6, .int 0), (5, .int 2), (4, .int (nI i)), (3, .ref o), (2, .ref y0), (1, .ref x0), (0, .ref b)]) hx hb dL_law_935 hl (by decide) rfl (fun ls hl => ?_)
          refine lv_aload_n hx hb dL_law_937 rfl (lv_at hl 4 rfl) ?_
          refine g_RVi (As := []) (rest := []) ⟨hx, hb, hml, hown, hts⟩ (mt_X2_thrown l dC dI cA H.size y0 q1 q2 q3 q4 q5 rn 2 sf lf mn rf nf ct il gf) (cwV 0 hts gL_law_X2_thrown rfl rfl rfl hdX2_thrown ⟨Nat.le_of_ble_eq_true rfl, Nat.le_of_ble_eq_true rfl⟩) hP hK hD [9, 10, 11, 12, 13, 14] (by decide) rfl (va_recv hK hP (ci := 2) (q0 := 9) rfl rfl) rfl hl.1 rfl (Nat.le_of_ble_eq_true rfl) dL_law_938 hc1 hs1 ?_
          refine lv_iload hx hb dL_law_941 (lv_at hl 1 rfl) ?_
          refine lv_icmp_eq (tgt := 948) hx hb dL_law_943 (by decide) (fun c943 => ?_) (fun c943 => ?_)
          · refine lv_iload hx hb dL_law_948 (lv_at hl 1 rfl) ?_
            refine lv_if_ne (tgt := 965) hx hb dL_law_950 (by decide) (fun c950 => ?_) (fun c950 => ?_)
            · have c950 : ¬ 2 = 0 := g_neT 2 0 (by omega) (by omega) c950
              refine lv_goto (tgt := 1241) hx hb dL_law_965 (by decide) ?_
              exact kk rn L0 L1 _ _ _ _ _ ⟨f0, f1, n2, f2, n3, f3, 2, sf, lf, mn, rf, nf, ct, il, gf, fo, hP, hD, hS, hR0, hR1, hl0, hl1, hrn, hr6, hk0, hk1, hW⟩ (by omega) (by omega) (lv_sub hl [2, 3, 4, 5, 6] rfl)
            · exact absurd c950 (by decide)
          · exact absurd (by decide) c943
        · refine lv_aload_n hx hb dL_law_888 rfl (lv_at hl 3 rfl) ?_
          refine lv_aload_n hx hb dL_law_889 rfl (lv_at hl 4 rfl) ?_
          refine lv_iload hx hb dL_law_890 (lv_at hl 0 rfl) ?_
          refine lv_iconst (v := 1) hx hb dL_law_892 (by decide) ?_
          refine lv_iadd hx hb dL_law_893 ?_
          rw [show (nI i) + 1 = nI (i + 1) from nI_add i 1]
          refine va_sld hx hb hX hbl hbA hS (vp_in_nI (by omega) (by omega)) dL_law_894 ?_
          rw [show (nI (i + 1)).toNatClampNeg = i + 1 from nI_clamp (by omega)]
          rw [h1]
          refine lv_aload_n hx hb dL_law_895 rfl (lv_at hl 4 rfl) ?_
          refine lv_iload hx hb dL_law_896 (lv_at hl 0 rfl) ?_
          refine lv_iconst (v := 2) hx hb dL_law_898 (by decide) ?_
          refine lv_iadd hx hb dL_law_899 ?_
          rw [show (nI i) + 2 = nI (i + 2) from nI_add i 2]
          refine va_sld hx hb hX hbl hbA hS (vp_in_nI (by omega) (by omega)) dL_law_900 ?_
          rw [show (nI (i + 2)).toNatClampNeg = i + 2 from nI_clamp (by omega)]
          rw [h2]
          refine lv_aload_n hx hb dL_law_901 rfl (lv_at hl 4 rfl) ?_
          refine lv_iload hx hb dL_law_902 (lv_at hl 0 rfl) ?_
          refine lv_iconst (v := 3) hx hb dL_law_904 (by decide) ?_
          refine lv_iadd hx hb dL_law_905 ?_
          rw [show (nI i) + 3 = nI (i + 3) from nI_add i 3]
          refine va_sld hx hb hX hbl hbA hS (vp_in_nI (by omega) (by omega)) dL_law_906 ?_
          rw [show (nI (i + 3)).toNatClampNeg = i + 3 from nI_clamp (by omega)]
          rw [h3]
          refine lv_aload_n hx hb dL_law_907 rfl (lv_at hl 1 rfl) ?_
          refine g_LS (As := [.ref x0, .int (nI 1), .int (nI ra), .int (nI rb), .ref o]) (rest := []) ⟨hx, hb, hml, hown, hts⟩ (mt_L_crosses1 l htr dC dI cA cL H.size x0 r0 r1 r2 r3 rn a1 L1 f1 (nI ra) (nI rb) o fo hR1 (nI_pos (by omega)) (nI_lt hra (by omega)) (nI_pos (by omega)) (nI_lt hrb (by omega)) (fun q9 => hab ((nI_eq (by omega) (by omega)).mp q9))) (vx_cwSW 5 hts gL_law_L_crosses rfl rfl rfl hdL_crosses ⟨Nat.le_of_ble_eq_true rfl, Nat.le_of_ble_eq_true rfl⟩) hP hKl hD hS hA hZ [0, 3, 4, 15] (by decide) rfl rfl hl.1 rfl (Nat.le_of_ble_eq_true rfl) dL_law_908 hc0 hs0 (fun u9 => [(x0, .inr (1, [.ref r0, .ref r1, .ref r2, .ref r3, .int (nI rn)])), (r0, .inr (0, [.ref a0, .int (nI L0.length)])), (a0, .inl (cA, (100, .inl f0))), (r1, .inr (0, [.ref a1, .int (nI L1.length)])), (a1, .inl (cA, (100, .inl f1))), (r2, .inr (0, [.ref a2, .int n2])), (a2, .inl (cA, (100, .inl f2))), (r3, .inr (0, [.ref a3, .int n3])), (a3, .inl (cA, (100, .inl f3))), (y0, .inr (2, [.int tv, .int (nI rn), .ref q1, .ref q2, .int mn, .ref q3, .ref q4, .int ct, .int il, .ref q5])), (q1, .inl (cA, (2, .inl sf))), (q2, .inl (cA, (60, .inl lf))), (q3, .inl (cA, (320, .inl rf))), (q4, .inl (cA, (320, .inl nf))), (q5, .inl (cA, (6, .inl gf))), (o, .inl (cL, (1, .inr (.inl (vp_updL fo 0 (crS L1 (nI ra) (nI rb) L1.length).toInt64)))))]) (fun _ => rfl) (fun _ => rfl) (fun u H locs hw_1 hP hD hS => ?_)
          have hP : va_P (dC, dI) vwCl [(x0, .inr (1, [.ref r0, .ref r1, .ref r2, .ref r3, .int (nI rn)])), (r0, .inr (0, [.ref a0, .int (nI L0.length)])), (a0, .inl (cA, (100, .inl f0))), (r1, .inr (0, [.ref a1, .int (nI L1.length)])), (a1, .inl (cA, (100, .inl f1))), (r2, .inr (0, [.ref a2, .int n2])), (a2, .inl (cA, (100, .inl f2))), (r3, .inr (0, [.ref a3, .int n3])), (a3, .inl (cA, (100, .inl f3))), (y0, .inr (2, [.int tv, .int (nI rn), .ref q1, .ref q2, .int mn, .ref q3, .ref q4, .int ct, .int il, .ref q5])), (q1, .inl (cA, (2, .inl sf))), (q2, .inl (cA, (60, .inl lf))), (q3, .inl (cA, (320, .inl rf))), (q4, .inl (cA, (320, .inl nf))), (q5, .inl (cA, (6, .inl gf))), (o, .inl (cL, (1, .inr (.inl (vp_updL fo 0 (crS L1 (nI ra) (nI rb) L1.length).toInt64)))))] H := hP
          have hD : va_D A [(x0, .inr (1, [.ref r0, .ref r1, .ref r2, .ref r3, .int (nI rn)])), (r0, .inr (0, [.ref a0, .int (nI L0.length)])), (a0, .inl (cA, (100, .inl f0))), (r1, .inr (0, [.ref a1, .int (nI L1.length)])), (a1, .inl (cA, (100, .inl f1))), (r2, .inr (0, [.ref a2, .int n2])), (a2, .inl (cA, (100, .inl f2))), (r3, .inr (0, [.ref a3, .int n3])), (a3, .inl (cA, (100, .inl f3))), (y0, .inr (2, [.int tv, .int (nI rn), .ref q1, .ref q2, .int mn, .ref q3, .ref q4, .int ct, .int il, .ref q5])), (q1, .inl (cA, (2, .inl sf))), (q2, .inl (cA, (60, .inl lf))), (q3, .inl (cA, (320, .inl rf))), (q4, .inl (cA, (320, .inl nf))), (q5, .inl (cA, (6, .inl gf))), (o, .inl (cL, (1, .inr (.inl (vp_updL fo 0 (crS L1 (nI ra) (nI rb) L1.length).toInt64)))))] := hD
          refine lv_istore (lv' := [(5, .int 0), (4, .int (nI i)), (3, .ref o), (2, .ref y0), (1, .ref x0), (0, .ref b)]) hx hb dL_law_911 hl (by decide) rfl (fun ls hl => ?_)
          refine lv_aload_n hx hb dL_law_913 rfl (lv_at hl 3 rfl) ?_
          refine lv_aload_n hx hb dL_law_914 rfl (lv_at hl 5 rfl) ?_
          refine lv_iload hx hb dL_law_915 (lv_at hl 1 rfl) ?_
          refine lv_iconst (v := 1) hx hb dL_law_917 (by decide) ?_
          refine lv_iadd hx hb dL_law_918 ?_
          rw [show (nI i) + 1 = nI (i + 1) from nI_add i 1]
          refine va_sld hx hb hX hbl hbA hS (vp_in_nI (by omega) (by omega)) dL_law_919 ?_
          rw [show (nI (i + 1)).toNatClampNeg = i + 1 from nI_clamp (by omega)]
          rw [h1]
          refine lv_aload_n hx hb dL_law_920 rfl (lv_at hl 5 rfl) ?_
          refine lv_iload hx hb dL_law_921 (lv_at hl 1 rfl) ?_
          refine lv_iconst (v := 2) hx hb dL_law_923 (by decide) ?_
          refine lv_iadd hx hb dL_law_924 ?_
          rw [show (nI i) + 2 = nI (i + 2) from nI_add i 2]
          refine va_sld hx hb hX hbl hbA hS (vp_in_nI (by omega) (by omega)) dL_law_925 ?_
          rw [show (nI (i + 2)).toNatClampNeg = i + 2 from nI_clamp (by omega)]
          rw [h2]
          refine lv_aload_n hx hb dL_law_926 rfl (lv_at hl 5 rfl) ?_
          refine lv_iload hx hb dL_law_927 (lv_at hl 1 rfl) ?_
          refine lv_iconst (v := 3) hx hb dL_law_929 (by decide) ?_
          refine lv_iadd hx hb dL_law_930 ?_
          rw [show (nI i) + 3 = nI (i + 3) from nI_add i 3]
          refine va_sld hx hb hX hbl hbA hS (vp_in_nI (by omega) (by omega)) dL_law_931 ?_
          rw [show (nI (i + 3)).toNatClampNeg = i + 3 from nI_clamp (by omega)]
          rw [h3]
          refine g_MVi (As := [.int (nI 1), .int (nI ra), .int (nI rb)]) (rest := []) ⟨hx, hb, hml, hown, hts⟩ (mt_X2_crosses l dC dI cA H.size y0 q1 q2 q3 q4 q5 rn tv sf lf mn rf nf ct il gf (V2 L0 L1) 1 ra rb hW hrn hr6 hok (by omega) hra hrb hab) (cwV 3 hts gL_law_X2_crosses rfl rfl rfl hdX2_crosses ⟨Nat.le_of_ble_eq_true rfl, Nat.le_of_ble_eq_true rfl⟩) hP hK hD hS hA [9, 10, 11, 12, 13, 14] (by decide) rfl (va_recv hK hP (ci := 2) (q0 := 9) rfl rfl) rfl hl.1 rfl (Nat.le_of_ble_eq_true rfl) dL_law_932 hc0 hs0 (fun u9 => [(x0, .inr (1, [.ref r0, .ref r1, .ref r2, .ref r3, .int (nI rn)])), (r0, .inr (0, [.ref a0, .int (nI L0.length)])), (a0, .inl (cA, (100, .inl f0))), (r1, .inr (0, [.ref a1, .int (nI L1.length)])), (a1, .inl (cA, (100, .inl f1))), (r2, .inr (0, [.ref a2, .int n2])), (a2, .inl (cA, (100, .inl f2))), (r3, .inr (0, [.ref a3, .int n3])), (a3, .inl (cA, (100, .inl f3))), (y0, .inr (2, [.int 0, .int (nI rn), .ref q1, .ref q2, .int mn, .ref q3, .ref q4, .int ct, .int il, .ref q5])), (q1, .inl (cA, (2, .inl sf))), (q2, .inl (cA, (60, .inl lf))), (q3, .inl (cA, (320, .inl rf))), (q4, .inl (cA, (320, .inl nf))), (q5, .inl (cA, (6, .inl u9))), (o, .inl (cL, (1, .inr (.inl (vp_updL fo 0 (crS L1 (nI ra) (nI rb) L1.length).toInt64)))))]) (fun _ => rfl) (fun _ => rfl) (fun u H locs hw_3 hP hD hS => ?_)
          obtain ⟨g9_2, rfl⟩ : ∃ z, z = u := ⟨_, rfl⟩
          have hw_3 : True := hw_3
          have hP : va_P (dC, dI) vwCl [(x0, .inr (1, [.ref r0, .ref r1, .ref r2, .ref r3, .int (nI rn)])), (r0, .inr (0, [.ref a0, .int (nI L0.length)])), (a0, .inl (cA, (100, .inl f0))), (r1, .inr (0, [.ref a1, .int (nI L1.length)])), (a1, .inl (cA, (100, .inl f1))), (r2, .inr (0, [.ref a2, .int n2])), (a2, .inl (cA, (100, .inl f2))), (r3, .inr (0, [.ref a3, .int n3])), (a3, .inl (cA, (100, .inl f3))), (y0, .inr (2, [.int 0, .int (nI rn), .ref q1, .ref q2, .int mn, .ref q3, .ref q4, .int ct, .int il, .ref q5])), (q1, .inl (cA, (2, .inl sf))), (q2, .inl (cA, (60, .inl lf))), (q3, .inl (cA, (320, .inl rf))), (q4, .inl (cA, (320, .inl nf))), (q5, .inl (cA, (6, .inl g9_2))), (o, .inl (cL, (1, .inr (.inl (vp_updL fo 0 (crS L1 (nI ra) (nI rb) L1.length).toInt64)))))] H := hP
          have hD : va_D A [(x0, .inr (1, [.ref r0, .ref r1, .ref r2, .ref r3, .int (nI rn)])), (r0, .inr (0, [.ref a0, .int (nI L0.length)])), (a0, .inl (cA, (100, .inl f0))), (r1, .inr (0, [.ref a1, .int (nI L1.length)])), (a1, .inl (cA, (100, .inl f1))), (r2, .inr (0, [.ref a2, .int n2])), (a2, .inl (cA, (100, .inl f2))), (r3, .inr (0, [.ref a3, .int n3])), (a3, .inl (cA, (100, .inl f3))), (y0, .inr (2, [.int 0, .int (nI rn), .ref q1, .ref q2, .int mn, .ref q3, .ref q4, .int ct, .int il, .ref q5])), (q1, .inl (cA, (2, .inl sf))), (q2, .inl (cA, (60, .inl lf))), (q3, .inl (cA, (320, .inl rf))), (q4, .inl (cA, (320, .inl nf))), (q5, .inl (cA, (6, .inl g9_2))), (o, .inl (cL, (1, .inr (.inl (vp_updL fo 0 (crS L1 (nI ra) (nI rb) L1.length).toInt64)))))] := hD
          refine lv_istore (lv' := [(6, .int (crS ((V2 L0 L1) 1) (nI ra) (nI rb) ((V2 L0 L1) 1).length)), (5, .int 0), (4, .int (nI i)), (3, .ref o), (2, .ref y0), (1, .ref x0), (0, .ref b)]) hx hb dL_law_935 hl (by decide) rfl (fun ls hl => ?_)
          refine lv_aload_n hx hb dL_law_937 rfl (lv_at hl 4 rfl) ?_
          refine g_RVi (As := []) (rest := []) ⟨hx, hb, hml, hown, hts⟩ (mt_X2_thrown l dC dI cA H.size y0 q1 q2 q3 q4 q5 rn 0 sf lf mn rf nf ct il g9_2) (cwV 0 hts gL_law_X2_thrown rfl rfl rfl hdX2_thrown ⟨Nat.le_of_ble_eq_true rfl, Nat.le_of_ble_eq_true rfl⟩) hP hK hD [9, 10, 11, 12, 13, 14] (by decide) rfl (va_recv hK hP (ci := 2) (q0 := 9) rfl rfl) rfl hl.1 rfl (Nat.le_of_ble_eq_true rfl) dL_law_938 hc0 hs0 ?_
          refine lv_iload hx hb dL_law_941 (lv_at hl 1 rfl) ?_
          refine lv_icmp_eq (tgt := 948) hx hb dL_law_943 (by decide) (fun c943 => ?_) (fun c943 => ?_)
          · refine lv_iload hx hb dL_law_948 (lv_at hl 1 rfl) ?_
            refine lv_if_ne (tgt := 965) hx hb dL_law_950 (by decide) (fun c950 => ?_) (fun c950 => ?_)
            · exact absurd (by decide) c950
            · have c950 : 0 = 0 := g_neF 0 0 (by omega) (by omega) c950
              refine lv_aload_n hx hb dL_law_953 rfl (lv_at hl 3 rfl) ?_
              refine lv_iconst (v := 0) hx hb dL_law_954 (by decide) ?_
              refine va_lald hx hb hKl hP 15 1 rfl rfl (vp_in_nI (n := 0) (by omega) (by decide)) dL_law_955 ?_
              rw [show (0 : Int32).toNatClampNeg = 0 from by decide, pk_uLs]
              refine lv_iload hx hb dL_law_956 (lv_at hl 0 rfl) ?_
              refine lv_i2l (v := (crS ((V2 L0 L1) 1) (nI ra) (nI rb) ((V2 L0 L1) 1).length).toInt64) hx hb dL_law_958 rfl ?_
              refine W.lcmp hx hb dL_law_959 ?_
              rw [show lg_cmp ((crS L1 (nI ra) (nI rb) L1.length).toInt64) ((crS ((V2 L0 L1) 1) (nI ra) (nI rb) ((V2 L0 L1) 1).length).toInt64) = 0 from (lg_cmp_eq _ _).mpr rfl]
              refine lv_if_eq (tgt := 965) hx hb dL_law_960 (by decide) (fun c960 => ?_) (fun c960 => ?_)
              · have c960 : 0 = 0 := g_eqT 0 0 (by omega) (by omega) c960
                refine lv_goto (tgt := 1241) hx hb dL_law_965 (by decide) ?_
                exact kk rn L0 L1 _ _ _ _ _ ⟨f0, f1, n2, f2, n3, f3, 0, sf, lf, mn, rf, nf, ct, il, g9_2, vp_updL fo 0 (crS L1 (nI ra) (nI rb) L1.length).toInt64, hP, hD, hS, hR0, hR1, hl0, hl1, hrn, hr6, hk0, hk1, hW⟩ (by omega) (by omega) (lv_sub hl [2, 3, 4, 5, 6] rfl)
              · exact absurd (by decide) c960
          · exact absurd (by decide) c943
