/-! 37: the law's steps, the rest -/
set_option maxHeartbeats 4000000 in
set_option maxRecDepth 100000 in
theorem lw_op_13 {p : Program} {l : Launch} {e : Env} {s : State} {m : MethodId} {below : List Frame} {meth : Method} {c : Code} {Q : State → Prop} {b L : Nat} {xs : Nat → Int32} {dC : Nat → ClassId} {dI : Nat → Nat → Nat} {cA cL : ClassId} {A : Nat → Prop} (E : lwE p l s m c b L xs dC dI cA cL A) {x0 r0 r1 r2 r3 a0 a1 a2 a3 y0 q1 q2 q3 q4 q5 o : Nat} {i : Nat} (hi : i + 4 ≤ L) {cells slots : Nat} (hC : cells + 1 ≤ 1053) (hS9 : slots + 6 ≤ 9402) {rn : Nat} {L0 L1 : List Int32} {H : Heap} {locs : List Loc} (hI : lwI dC dI cA cL A s.heap x0 r0 r1 r2 r3 a0 a1 a2 a3 y0 q1 q2 q3 q4 q5 o rn L0 L1 H locs) {ls : Array Slot} (hl : lv_has ls 9 [(4, .int (nI i)), (3, .ref o), (2, .ref y0), (1, .ref x0), (0, .ref b)])
    (kk : ∀ (rn : Nat) (L0 L1 : List Int32) (H : Heap) (locs : List Loc) (cells1 slots1 : Nat) (ls : Array Slot), lwI dC dI cA cL A s.heap x0 r0 r1 r2 r3 a0 a1 a2 a3 y0 q1 q2 q3 q4 q5 o rn L0 L1 H locs → cells1 ≤ cells + 1 → slots1 ≤ slots + 6 → lv_has ls 9 [(4, .int (nI i)), (3, .ref o), (2, .ref y0), (1, .ref x0), (0, .ref b)] → W p l e room_1 s m #[Value.ref b] below meth c H locs cells1 slots1 Q (F0 m 1241 ls [])) :
    W p l e room_1 s m #[Value.ref b] below meth c H locs cells slots Q (F0 m 968 ls []) := by
  obtain ⟨hx, hb, hml, hown, hts, hX, hbl, hbA, hA, htr, hKl, hZ, hL2⟩ := E
  obtain ⟨f0, f1, n2, f2, n3, f3, tv, sf, lf, mn, rf, nf, ct, il, gf, fo, hP, hD, hS, hR0, hR1, hl0, hl1, hrn, hr6, hk0, hk1, hW⟩ := hI
  have hK : va_K (dC, dI) vwCl [(cA, .int)] s := hKl.sub [0] rfl
  have hok := V2_ok hk0 hk1
  have hc0 : cells ≤ room_1.cells := (show cells ≤ 1053 from by omega)
  have hs0 : slots ≤ room_1.slots := (show slots ≤ 9402 from by omega)
  have hc1 : cells + 1 ≤ room_1.cells := hC
  have hs1 : slots + 6 ≤ room_1.slots := hS9
  rcases wd_ix (xs (i + 1)) with hbad | h1 | h1
  · refine lv_aload_n hx hb dL_law_968 rfl (lv_at hl 3 rfl) ?_
    refine lv_aload_n hx hb dL_law_969 rfl (lv_at hl 4 rfl) ?_
    refine lv_iload hx hb dL_law_970 (lv_at hl 0 rfl) ?_
    refine lv_iconst (v := 1) hx hb dL_law_972 (by decide) ?_
    refine lv_iadd hx hb dL_law_973 ?_
    rw [show (nI i) + 1 = nI (i + 1) from nI_add i 1]
    refine va_sld hx hb hX hbl hbA hS (vp_in_nI (by omega) (by omega)) dL_law_974 ?_
    rw [show (nI (i + 1)).toNatClampNeg = i + 1 from nI_clamp (by omega)]
    refine lv_aload_n hx hb dL_law_975 rfl (lv_at hl 4 rfl) ?_
    refine lv_iload hx hb dL_law_976 (lv_at hl 0 rfl) ?_
    refine lv_iconst (v := 2) hx hb dL_law_978 (by decide) ?_
    refine lv_iadd hx hb dL_law_979 ?_
    rw [show (nI i) + 2 = nI (i + 2) from nI_add i 2]
    refine va_sld hx hb hX hbl hbA hS (vp_in_nI (by omega) (by omega)) dL_law_980 ?_
    rw [show (nI (i + 2)).toNatClampNeg = i + 2 from nI_clamp (by omega)]
    refine lv_aload_n hx hb dL_law_981 rfl (lv_at hl 1 rfl) ?_
    refine g_LS (As := [.ref x0, .int (xs (i + 1)), .int (xs (i + 2)), .ref o]) (rest := []) ⟨hx, hb, hml, hown, hts⟩ (mt_L_handle_1 l htr dC dI cA cL H.size x0 (xs (i + 1)) (xs (i + 2)) r0 r1 r2 r3 (nI rn) o fo hbad) (vx_cwSW 4 hts gL_law_L_handle rfl rfl rfl hdL_handle ⟨Nat.le_of_ble_eq_true rfl, Nat.le_of_ble_eq_true rfl⟩) hP hKl hD hS hA hZ [0, 15] (by decide) rfl rfl hl.1 rfl (Nat.le_of_ble_eq_true rfl) dL_law_982 hc1 hs1 (fun u9 => [(x0, .inr (1, [.ref r0, .ref r1, .ref r2, .ref r3, .int (nI rn)])), (r0, .inr (0, [.ref a0, .int (nI L0.length)])), (a0, .inl (cA, (100, .inl f0))), (r1, .inr (0, [.ref a1, .int (nI L1.length)])), (a1, .inl (cA, (100, .inl f1))), (r2, .inr (0, [.ref a2, .int n2])), (a2, .inl (cA, (100, .inl f2))), (r3, .inr (0, [.ref a3, .int n3])), (a3, .inl (cA, (100, .inl f3))), (y0, .inr (2, [.int tv, .int (nI rn), .ref q1, .ref q2, .int mn, .ref q3, .ref q4, .int ct, .int il, .ref q5])), (q1, .inl (cA, (2, .inl sf))), (q2, .inl (cA, (60, .inl lf))), (q3, .inl (cA, (320, .inl rf))), (q4, .inl (cA, (320, .inl nf))), (q5, .inl (cA, (6, .inl gf))), (o, .inl (cL, (1, .inr (.inl fo))))]) (fun _ => rfl) (fun _ => rfl) (fun u H locs hw_1 hP hD hS => ?_)
    have hP : va_P (dC, dI) vwCl [(x0, .inr (1, [.ref r0, .ref r1, .ref r2, .ref r3, .int (nI rn)])), (r0, .inr (0, [.ref a0, .int (nI L0.length)])), (a0, .inl (cA, (100, .inl f0))), (r1, .inr (0, [.ref a1, .int (nI L1.length)])), (a1, .inl (cA, (100, .inl f1))), (r2, .inr (0, [.ref a2, .int n2])), (a2, .inl (cA, (100, .inl f2))), (r3, .inr (0, [.ref a3, .int n3])), (a3, .inl (cA, (100, .inl f3))), (y0, .inr (2, [.int tv, .int (nI rn), .ref q1, .ref q2, .int mn, .ref q3, .ref q4, .int ct, .int il, .ref q5])), (q1, .inl (cA, (2, .inl sf))), (q2, .inl (cA, (60, .inl lf))), (q3, .inl (cA, (320, .inl rf))), (q4, .inl (cA, (320, .inl nf))), (q5, .inl (cA, (6, .inl gf))), (o, .inl (cL, (1, .inr (.inl fo))))] H := hP
    have hD : va_D A [(x0, .inr (1, [.ref r0, .ref r1, .ref r2, .ref r3, .int (nI rn)])), (r0, .inr (0, [.ref a0, .int (nI L0.length)])), (a0, .inl (cA, (100, .inl f0))), (r1, .inr (0, [.ref a1, .int (nI L1.length)])), (a1, .inl (cA, (100, .inl f1))), (r2, .inr (0, [.ref a2, .int n2])), (a2, .inl (cA, (100, .inl f2))), (r3, .inr (0, [.ref a3, .int n3])), (a3, .inl (cA, (100, .inl f3))), (y0, .inr (2, [.int tv, .int (nI rn), .ref q1, .ref q2, .int mn, .ref q3, .ref q4, .int ct, .int il, .ref q5])), (q1, .inl (cA, (2, .inl sf))), (q2, .inl (cA, (60, .inl lf))), (q3, .inl (cA, (320, .inl rf))), (q4, .inl (cA, (320, .inl nf))), (q5, .inl (cA, (6, .inl gf))), (o, .inl (cL, (1, .inr (.inl fo))))] := hD
    refine lv_istore (lv' := [(5, .int 1), (4, .int (nI i)), (3, .ref o), (2, .ref y0), (1, .ref x0), (0, .ref b)]) hx hb dL_law_985 hl (by decide) rfl (fun ls hl => ?_)
    refine lv_aload_n hx hb dL_law_987 rfl (lv_at hl 3 rfl) ?_
    refine lv_aload_n hx hb dL_law_988 rfl (lv_at hl 5 rfl) ?_
    refine lv_iload hx hb dL_law_989 (lv_at hl 1 rfl) ?_
    refine lv_iconst (v := 1) hx hb dL_law_991 (by decide) ?_
    refine lv_iadd hx hb dL_law_992 ?_
    rw [show (nI i) + 1 = nI (i + 1) from nI_add i 1]
    refine va_sld hx hb hX hbl hbA hS (vp_in_nI (by omega) (by omega)) dL_law_993 ?_
    rw [show (nI (i + 1)).toNatClampNeg = i + 1 from nI_clamp (by omega)]
    refine lv_aload_n hx hb dL_law_994 rfl (lv_at hl 5 rfl) ?_
    refine lv_iload hx hb dL_law_995 (lv_at hl 1 rfl) ?_
    refine lv_iconst (v := 2) hx hb dL_law_997 (by decide) ?_
    refine lv_iadd hx hb dL_law_998 ?_
    rw [show (nI i) + 2 = nI (i + 2) from nI_add i 2]
    refine va_sld hx hb hX hbl hbA hS (vp_in_nI (by omega) (by omega)) dL_law_999 ?_
    rw [show (nI (i + 2)).toNatClampNeg = i + 2 from nI_clamp (by omega)]
    refine g_MVi (As := [.int (xs (i + 1)), .int (xs (i + 2))]) (rest := []) ⟨hx, hb, hml, hown, hts⟩ (mt_X2_handle_1 l dC dI cA H.size y0 q1 q2 q3 q4 q5 rn tv sf lf mn rf nf ct il gf (xs (i + 1)) (xs (i + 2)) hbad) (cwV 2 hts gL_law_X2_handle rfl rfl rfl hdX2_handle ⟨Nat.le_of_ble_eq_true rfl, Nat.le_of_ble_eq_true rfl⟩) hP hK hD hS hA [9, 10, 11, 12, 13, 14] (by decide) rfl (va_recv hK hP (ci := 2) (q0 := 9) rfl rfl) rfl hl.1 rfl (Nat.le_of_ble_eq_true rfl) dL_law_1000 hc1 hs1 (fun u9 => [(x0, .inr (1, [.ref r0, .ref r1, .ref r2, .ref r3, .int (nI rn)])), (r0, .inr (0, [.ref a0, .int (nI L0.length)])), (a0, .inl (cA, (100, .inl f0))), (r1, .inr (0, [.ref a1, .int (nI L1.length)])), (a1, .inl (cA, (100, .inl f1))), (r2, .inr (0, [.ref a2, .int n2])), (a2, .inl (cA, (100, .inl f2))), (r3, .inr (0, [.ref a3, .int n3])), (a3, .inl (cA, (100, .inl f3))), (y0, .inr (2, [.int 1, .int (nI rn), .ref q1, .ref q2, .int mn, .ref q3, .ref q4, .int ct, .int il, .ref q5])), (q1, .inl (cA, (2, .inl sf))), (q2, .inl (cA, (60, .inl lf))), (q3, .inl (cA, (320, .inl rf))), (q4, .inl (cA, (320, .inl nf))), (q5, .inl (cA, (6, .inl gf))), (o, .inl (cL, (1, .inr (.inl fo))))]) (fun _ => rfl) (fun _ => rfl) (fun u H locs hw_2 hP hD hS => ?_)
    have hw_2 : True := hw_2
    have hP : va_P (dC, dI) vwCl [(x0, .inr (1, [.ref r0, .ref r1, .ref r2, .ref r3, .int (nI rn)])), (r0, .inr (0, [.ref a0, .int (nI L0.length)])), (a0, .inl (cA, (100, .inl f0))), (r1, .inr (0, [.ref a1, .int (nI L1.length)])), (a1, .inl (cA, (100, .inl f1))), (r2, .inr (0, [.ref a2, .int n2])), (a2, .inl (cA, (100, .inl f2))), (r3, .inr (0, [.ref a3, .int n3])), (a3, .inl (cA, (100, .inl f3))), (y0, .inr (2, [.int 1, .int (nI rn), .ref q1, .ref q2, .int mn, .ref q3, .ref q4, .int ct, .int il, .ref q5])), (q1, .inl (cA, (2, .inl sf))), (q2, .inl (cA, (60, .inl lf))), (q3, .inl (cA, (320, .inl rf))), (q4, .inl (cA, (320, .inl nf))), (q5, .inl (cA, (6, .inl gf))), (o, .inl (cL, (1, .inr (.inl fo))))] H := hP
    have hD : va_D A [(x0, .inr (1, [.ref r0, .ref r1, .ref r2, .ref r3, .int (nI rn)])), (r0, .inr (0, [.ref a0, .int (nI L0.length)])), (a0, .inl (cA, (100, .inl f0))), (r1, .inr (0, [.ref a1, .int (nI L1.length)])), (a1, .inl (cA, (100, .inl f1))), (r2, .inr (0, [.ref a2, .int n2])), (a2, .inl (cA, (100, .inl f2))), (r3, .inr (0, [.ref a3, .int n3])), (a3, .inl (cA, (100, .inl f3))), (y0, .inr (2, [.int 1, .int (nI rn), .ref q1, .ref q2, .int mn, .ref q3, .ref q4, .int ct, .int il, .ref q5])), (q1, .inl (cA, (2, .inl sf))), (q2, .inl (cA, (60, .inl lf))), (q3, .inl (cA, (320, .inl rf))), (q4, .inl (cA, (320, .inl nf))), (q5, .inl (cA, (6, .inl gf))), (o, .inl (cL, (1, .inr (.inl fo))))] := hD
    refine lv_istore (lv' := [(6, .int 0), (5, .int 1), (4, .int (nI i)), (3, .ref o), (2, .ref y0), (1, .ref x0), (0, .ref b)]) hx hb dL_law_1003 hl (by decide) rfl (fun ls hl => ?_)
    refine lv_aload_n hx hb dL_law_1005 rfl (lv_at hl 4 rfl) ?_
    refine g_RVi (As := []) (rest := []) ⟨hx, hb, hml, hown, hts⟩ (mt_X2_thrown l dC dI cA H.size y0 q1 q2 q3 q4 q5 rn 1 sf lf mn rf nf ct il gf) (cwV 0 hts gL_law_X2_thrown rfl rfl rfl hdX2_thrown ⟨Nat.le_of_ble_eq_true rfl, Nat.le_of_ble_eq_true rfl⟩) hP hK hD [9, 10, 11, 12, 13, 14] (by decide) rfl (va_recv hK hP (ci := 2) (q0 := 9) rfl rfl) rfl hl.1 rfl (Nat.le_of_ble_eq_true rfl) dL_law_1006 hc1 hs1 ?_
    refine lv_iload hx hb dL_law_1009 (lv_at hl 1 rfl) ?_
    refine lv_icmp_eq (tgt := 1016) hx hb dL_law_1011 (by decide) (fun c1011 => ?_) (fun c1011 => ?_)
    · refine lv_iload hx hb dL_law_1016 (lv_at hl 1 rfl) ?_
      refine lv_if_ne (tgt := 1033) hx hb dL_law_1018 (by decide) (fun c1018 => ?_) (fun c1018 => ?_)
      · have c1018 : ¬ 1 = 0 := g_neT 1 0 (by omega) (by omega) c1018
        refine lv_goto (tgt := 1241) hx hb dL_law_1033 (by decide) ?_
        exact kk rn L0 L1 _ _ _ _ _ ⟨f0, f1, n2, f2, n3, f3, 1, sf, lf, mn, rf, nf, ct, il, gf, fo, hP, hD, hS, hR0, hR1, hl0, hl1, hrn, hr6, hk0, hk1, hW⟩ (by omega) (by omega) (lv_sub hl [2, 3, 4, 5, 6] rfl)
      · exact absurd c1018 (by decide)
    · exact absurd (by decide) c1011
  · rcases pk_ix (xs (i + 2)) (n := 3) (by decide) with hbad | hbad | ⟨q, hq, h2⟩
    · refine lv_aload_n hx hb dL_law_968 rfl (lv_at hl 3 rfl) ?_
      refine lv_aload_n hx hb dL_law_969 rfl (lv_at hl 4 rfl) ?_
      refine lv_iload hx hb dL_law_970 (lv_at hl 0 rfl) ?_
      refine lv_iconst (v := 1) hx hb dL_law_972 (by decide) ?_
      refine lv_iadd hx hb dL_law_973 ?_
      rw [show (nI i) + 1 = nI (i + 1) from nI_add i 1]
      refine va_sld hx hb hX hbl hbA hS (vp_in_nI (by omega) (by omega)) dL_law_974 ?_
      rw [show (nI (i + 1)).toNatClampNeg = i + 1 from nI_clamp (by omega)]
      rw [h1]
      refine lv_aload_n hx hb dL_law_975 rfl (lv_at hl 4 rfl) ?_
      refine lv_iload hx hb dL_law_976 (lv_at hl 0 rfl) ?_
      refine lv_iconst (v := 2) hx hb dL_law_978 (by decide) ?_
      refine lv_iadd hx hb dL_law_979 ?_
      rw [show (nI i) + 2 = nI (i + 2) from nI_add i 2]
      refine va_sld hx hb hX hbl hbA hS (vp_in_nI (by omega) (by omega)) dL_law_980 ?_
      rw [show (nI (i + 2)).toNatClampNeg = i + 2 from nI_clamp (by omega)]
      refine lv_aload_n hx hb dL_law_981 rfl (lv_at hl 1 rfl) ?_
      refine g_LS (As := [.ref x0, .int (nI 0), .int (xs (i + 2)), .ref o]) (rest := []) ⟨hx, hb, hml, hown, hts⟩ (mt_L_handle_1b_0 l htr dC dI cA cL H.size x0 r0 r1 r2 r3 rn (xs (i + 2)) o fo (Or.inl hbad)) (vx_cwSW 4 hts gL_law_L_handle rfl rfl rfl hdL_handle ⟨Nat.le_of_ble_eq_true rfl, Nat.le_of_ble_eq_true rfl⟩) hP hKl hD hS hA hZ [0, 15] (by decide) rfl rfl hl.1 rfl (Nat.le_of_ble_eq_true rfl) dL_law_982 hc1 hs1 (fun u9 => [(x0, .inr (1, [.ref r0, .ref r1, .ref r2, .ref r3, .int (nI rn)])), (r0, .inr (0, [.ref a0, .int (nI L0.length)])), (a0, .inl (cA, (100, .inl f0))), (r1, .inr (0, [.ref a1, .int (nI L1.length)])), (a1, .inl (cA, (100, .inl f1))), (r2, .inr (0, [.ref a2, .int n2])), (a2, .inl (cA, (100, .inl f2))), (r3, .inr (0, [.ref a3, .int n3])), (a3, .inl (cA, (100, .inl f3))), (y0, .inr (2, [.int tv, .int (nI rn), .ref q1, .ref q2, .int mn, .ref q3, .ref q4, .int ct, .int il, .ref q5])), (q1, .inl (cA, (2, .inl sf))), (q2, .inl (cA, (60, .inl lf))), (q3, .inl (cA, (320, .inl rf))), (q4, .inl (cA, (320, .inl nf))), (q5, .inl (cA, (6, .inl gf))), (o, .inl (cL, (1, .inr (.inl fo))))]) (fun _ => rfl) (fun _ => rfl) (fun u H locs hw_1 hP hD hS => ?_)
      have hP : va_P (dC, dI) vwCl [(x0, .inr (1, [.ref r0, .ref r1, .ref r2, .ref r3, .int (nI rn)])), (r0, .inr (0, [.ref a0, .int (nI L0.length)])), (a0, .inl (cA, (100, .inl f0))), (r1, .inr (0, [.ref a1, .int (nI L1.length)])), (a1, .inl (cA, (100, .inl f1))), (r2, .inr (0, [.ref a2, .int n2])), (a2, .inl (cA, (100, .inl f2))), (r3, .inr (0, [.ref a3, .int n3])), (a3, .inl (cA, (100, .inl f3))), (y0, .inr (2, [.int tv, .int (nI rn), .ref q1, .ref q2, .int mn, .ref q3, .ref q4, .int ct, .int il, .ref q5])), (q1, .inl (cA, (2, .inl sf))), (q2, .inl (cA, (60, .inl lf))), (q3, .inl (cA, (320, .inl rf))), (q4, .inl (cA, (320, .inl nf))), (q5, .inl (cA, (6, .inl gf))), (o, .inl (cL, (1, .inr (.inl fo))))] H := hP
      have hD : va_D A [(x0, .inr (1, [.ref r0, .ref r1, .ref r2, .ref r3, .int (nI rn)])), (r0, .inr (0, [.ref a0, .int (nI L0.length)])), (a0, .inl (cA, (100, .inl f0))), (r1, .inr (0, [.ref a1, .int (nI L1.length)])), (a1, .inl (cA, (100, .inl f1))), (r2, .inr (0, [.ref a2, .int n2])), (a2, .inl (cA, (100, .inl f2))), (r3, .inr (0, [.ref a3, .int n3])), (a3, .inl (cA, (100, .inl f3))), (y0, .inr (2, [.int tv, .int (nI rn), .ref q1, .ref q2, .int mn, .ref q3, .ref q4, .int ct, .int il, .ref q5])), (q1, .inl (cA, (2, .inl sf))), (q2, .inl (cA, (60, .inl lf))), (q3, .inl (cA, (320, .inl rf))), (q4, .inl (cA, (320, .inl nf))), (q5, .inl (cA, (6, .inl gf))), (o, .inl (cL, (1, .inr (.inl fo))))] := hD
      refine lv_istore (lv' := [(5, .int 1), (4, .int (nI i)), (3, .ref o), (2, .ref y0), (1, .ref x0), (0, .ref b)]) hx hb dL_law_985 hl (by decide) rfl (fun ls hl => ?_)
      refine lv_aload_n hx hb dL_law_987 rfl (lv_at hl 3 rfl) ?_
      refine lv_aload_n hx hb dL_law_988 rfl (lv_at hl 5 rfl) ?_
      refine lv_iload hx hb dL_law_989 (lv_at hl 1 rfl) ?_
      refine lv_iconst (v := 1) hx hb dL_law_991 (by decide) ?_
      refine lv_iadd hx hb dL_law_992 ?_
      rw [show (nI i) + 1 = nI (i + 1) from nI_add i 1]
      refine va_sld hx hb hX hbl hbA hS (vp_in_nI (by omega) (by omega)) dL_law_993 ?_
      rw [show (nI (i + 1)).toNatClampNeg = i + 1 from nI_clamp (by omega)]
      rw [h1]
      refine lv_aload_n hx hb dL_law_994 rfl (lv_at hl 5 rfl) ?_
      refine lv_iload hx hb dL_law_995 (lv_at hl 1 rfl) ?_
      refine lv_iconst (v := 2) hx hb dL_law_997 (by decide) ?_
      refine lv_iadd hx hb dL_law_998 ?_
      rw [show (nI i) + 2 = nI (i + 2) from nI_add i 2]
      refine va_sld hx hb hX hbl hbA hS (vp_in_nI (by omega) (by omega)) dL_law_999 ?_
      rw [show (nI (i + 2)).toNatClampNeg = i + 2 from nI_clamp (by omega)]
      refine g_MVi (As := [.int (nI 0), .int (xs (i + 2))]) (rest := []) ⟨hx, hb, hml, hown, hts⟩ (mt_X2_handle_1b l dC dI cA H.size y0 q1 q2 q3 q4 q5 rn tv sf lf mn rf nf ct il gf 0 (xs (i + 2)) (by omega) (Or.inl hbad)) (cwV 2 hts gL_law_X2_handle rfl rfl rfl hdX2_handle ⟨Nat.le_of_ble_eq_true rfl, Nat.le_of_ble_eq_true rfl⟩) hP hK hD hS hA [9, 10, 11, 12, 13, 14] (by decide) rfl (va_recv hK hP (ci := 2) (q0 := 9) rfl rfl) rfl hl.1 rfl (Nat.le_of_ble_eq_true rfl) dL_law_1000 hc1 hs1 (fun u9 => [(x0, .inr (1, [.ref r0, .ref r1, .ref r2, .ref r3, .int (nI rn)])), (r0, .inr (0, [.ref a0, .int (nI L0.length)])), (a0, .inl (cA, (100, .inl f0))), (r1, .inr (0, [.ref a1, .int (nI L1.length)])), (a1, .inl (cA, (100, .inl f1))), (r2, .inr (0, [.ref a2, .int n2])), (a2, .inl (cA, (100, .inl f2))), (r3, .inr (0, [.ref a3, .int n3])), (a3, .inl (cA, (100, .inl f3))), (y0, .inr (2, [.int 1, .int (nI rn), .ref q1, .ref q2, .int mn, .ref q3, .ref q4, .int ct, .int il, .ref q5])), (q1, .inl (cA, (2, .inl sf))), (q2, .inl (cA, (60, .inl lf))), (q3, .inl (cA, (320, .inl rf))), (q4, .inl (cA, (320, .inl nf))), (q5, .inl (cA, (6, .inl gf))), (o, .inl (cL, (1, .inr (.inl fo))))]) (fun _ => rfl) (fun _ => rfl) (fun u H locs hw_2 hP hD hS => ?_)
      have hw_2 : True := hw_2
      have hP : va_P (dC, dI) vwCl [(x0, .inr (1, [.ref r0, .ref r1, .ref r2, .ref r3, .int (nI rn)])), (r0, .inr (0, [.ref a0, .int (nI L0.length)])), (a0, .inl (cA, (100, .inl f0))), (r1, .inr (0, [.ref a1, .int (nI L1.length)])), (a1, .inl (cA, (100, .inl f1))), (r2, .inr (0, [.ref a2, .int n2])), (a2, .inl (cA, (100, .inl f2))), (r3, .inr (0, [.ref a3, .int n3])), (a3, .inl (cA, (100, .inl f3))), (y0, .inr (2, [.int 1, .int (nI rn), .ref q1, .ref q2, .int mn, .ref q3, .ref q4, .int ct, .int il, .ref q5])), (q1, .inl (cA, (2, .inl sf))), (q2, .inl (cA, (60, .inl lf))), (q3, .inl (cA, (320, .inl rf))), (q4, .inl (cA, (320, .inl nf))), (q5, .inl (cA, (6, .inl gf))), (o, .inl (cL, (1, .inr (.inl fo))))] H := hP
      have hD : va_D A [(x0, .inr (1, [.ref r0, .ref r1, .ref r2, .ref r3, .int (nI rn)])), (r0, .inr (0, [.ref a0, .int (nI L0.length)])), (a0, .inl (cA, (100, .inl f0))), (r1, .inr (0, [.ref a1, .int (nI L1.length)])), (a1, .inl (cA, (100, .inl f1))), (r2, .inr (0, [.ref a2, .int n2])), (a2, .inl (cA, (100, .inl f2))), (r3, .inr (0, [.ref a3, .int n3])), (a3, .inl (cA, (100, .inl f3))), (y0, .inr (2, [.int 1, .int (nI rn), .ref q1, .ref q2, .int mn, .ref q3, .ref q4, .int ct, .int il, .ref q5])), (q1, .inl (cA, (2, .inl sf))), (q2, .inl (cA, (60, .inl lf))), (q3, .inl (cA, (320, .inl rf))), (q4, .inl (cA, (320, .inl nf))), (q5, .inl (cA, (6, .inl gf))), (o, .inl (cL, (1, .inr (.inl fo))))] := hD
      refine lv_istore (lv' := [(6, .int 0), (5, .int 1), (4, .int (nI i)), (3, .ref o), (2, .ref y0), (1, .ref x0), (0, .ref b)]) hx hb dL_law_1003 hl (by decide) rfl (fun ls hl => ?_)
      refine lv_aload_n hx hb dL_law_1005 rfl (lv_at hl 4 rfl) ?_
      refine g_RVi (As := []) (rest := []) ⟨hx, hb, hml, hown, hts⟩ (mt_X2_thrown l dC dI cA H.size y0 q1 q2 q3 q4 q5 rn 1 sf lf mn rf nf ct il gf) (cwV 0 hts gL_law_X2_thrown rfl rfl rfl hdX2_thrown ⟨Nat.le_of_ble_eq_true rfl, Nat.le_of_ble_eq_true rfl⟩) hP hK hD [9, 10, 11, 12, 13, 14] (by decide) rfl (va_recv hK hP (ci := 2) (q0 := 9) rfl rfl) rfl hl.1 rfl (Nat.le_of_ble_eq_true rfl) dL_law_1006 hc1 hs1 ?_
      refine lv_iload hx hb dL_law_1009 (lv_at hl 1 rfl) ?_
      refine lv_icmp_eq (tgt := 1016) hx hb dL_law_1011 (by decide) (fun c1011 => ?_) (fun c1011 => ?_)
      · refine lv_iload hx hb dL_law_1016 (lv_at hl 1 rfl) ?_
        refine lv_if_ne (tgt := 1033) hx hb dL_law_1018 (by decide) (fun c1018 => ?_) (fun c1018 => ?_)
        · have c1018 : ¬ 1 = 0 := g_neT 1 0 (by omega) (by omega) c1018
          refine lv_goto (tgt := 1241) hx hb dL_law_1033 (by decide) ?_
          exact kk rn L0 L1 _ _ _ _ _ ⟨f0, f1, n2, f2, n3, f3, 1, sf, lf, mn, rf, nf, ct, il, gf, fo, hP, hD, hS, hR0, hR1, hl0, hl1, hrn, hr6, hk0, hk1, hW⟩ (by omega) (by omega) (lv_sub hl [2, 3, 4, 5, 6] rfl)
        · exact absurd c1018 (by decide)
      · exact absurd (by decide) c1011
    · refine lv_aload_n hx hb dL_law_968 rfl (lv_at hl 3 rfl) ?_
      refine lv_aload_n hx hb dL_law_969 rfl (lv_at hl 4 rfl) ?_
      refine lv_iload hx hb dL_law_970 (lv_at hl 0 rfl) ?_
      refine lv_iconst (v := 1) hx hb dL_law_972 (by decide) ?_
      refine lv_iadd hx hb dL_law_973 ?_
      rw [show (nI i) + 1 = nI (i + 1) from nI_add i 1]
      refine va_sld hx hb hX hbl hbA hS (vp_in_nI (by omega) (by omega)) dL_law_974 ?_
      rw [show (nI (i + 1)).toNatClampNeg = i + 1 from nI_clamp (by omega)]
      rw [h1]
      refine lv_aload_n hx hb dL_law_975 rfl (lv_at hl 4 rfl) ?_
      refine lv_iload hx hb dL_law_976 (lv_at hl 0 rfl) ?_
      refine lv_iconst (v := 2) hx hb dL_law_978 (by decide) ?_
      refine lv_iadd hx hb dL_law_979 ?_
      rw [show (nI i) + 2 = nI (i + 2) from nI_add i 2]
      refine va_sld hx hb hX hbl hbA hS (vp_in_nI (by omega) (by omega)) dL_law_980 ?_
      rw [show (nI (i + 2)).toNatClampNeg = i + 2 from nI_clamp (by omega)]
      refine lv_aload_n hx hb dL_law_981 rfl (lv_at hl 1 rfl) ?_
      refine g_LS (As := [.ref x0, .int (nI 0), .int (xs (i + 2)), .ref o]) (rest := []) ⟨hx, hb, hml, hown, hts⟩ (mt_L_handle_1b_0 l htr dC dI cA cL H.size x0 r0 r1 r2 r3 rn (xs (i + 2)) o fo (Or.inr hbad)) (vx_cwSW 4 hts gL_law_L_handle rfl rfl rfl hdL_handle ⟨Nat.le_of_ble_eq_true rfl, Nat.le_of_ble_eq_true rfl⟩) hP hKl hD hS hA hZ [0, 15] (by decide) rfl rfl hl.1 rfl (Nat.le_of_ble_eq_true rfl) dL_law_982 hc1 hs1 (fun u9 => [(x0, .inr (1, [.ref r0, .ref r1, .ref r2, .ref r3, .int (nI rn)])), (r0, .inr (0, [.ref a0, .int (nI L0.length)])), (a0, .inl (cA, (100, .inl f0))), (r1, .inr (0, [.ref a1, .int (nI L1.length)])), (a1, .inl (cA, (100, .inl f1))), (r2, .inr (0, [.ref a2, .int n2])), (a2, .inl (cA, (100, .inl f2))), (r3, .inr (0, [.ref a3, .int n3])), (a3, .inl (cA, (100, .inl f3))), (y0, .inr (2, [.int tv, .int (nI rn), .ref q1, .ref q2, .int mn, .ref q3, .ref q4, .int ct, .int il, .ref q5])), (q1, .inl (cA, (2, .inl sf))), (q2, .inl (cA, (60, .inl lf))), (q3, .inl (cA, (320, .inl rf))), (q4, .inl (cA, (320, .inl nf))), (q5, .inl (cA, (6, .inl gf))), (o, .inl (cL, (1, .inr (.inl fo))))]) (fun _ => rfl) (fun _ => rfl) (fun u H locs hw_1 hP hD hS => ?_)
      have hP : va_P (dC, dI) vwCl [(x0, .inr (1, [.ref r0, .ref r1, .ref r2, .ref r3, .int (nI rn)])), (r0, .inr (0, [.ref a0, .int (nI L0.length)])), (a0, .inl (cA, (100, .inl f0))), (r1, .inr (0, [.ref a1, .int (nI L1.length)])), (a1, .inl (cA, (100, .inl f1))), (r2, .inr (0, [.ref a2, .int n2])), (a2, .inl (cA, (100, .inl f2))), (r3, .inr (0, [.ref a3, .int n3])), (a3, .inl (cA, (100, .inl f3))), (y0, .inr (2, [.int tv, .int (nI rn), .ref q1, .ref q2, .int mn, .ref q3, .ref q4, .int ct, .int il, .ref q5])), (q1, .inl (cA, (2, .inl sf))), (q2, .inl (cA, (60, .inl lf))), (q3, .inl (cA, (320, .inl rf))), (q4, .inl (cA, (320, .inl nf))), (q5, .inl (cA, (6, .inl gf))), (o, .inl (cL, (1, .inr (.inl fo))))] H := hP
      have hD : va_D A [(x0, .inr (1, [.ref r0, .ref r1, .ref r2, .ref r3, .int (nI rn)])), (r0, .inr (0, [.ref a0, .int (nI L0.length)])), (a0, .inl (cA, (100, .inl f0))), (r1, .inr (0, [.ref a1, .int (nI L1.length)])), (a1, .inl (cA, (100, .inl f1))), (r2, .inr (0, [.ref a2, .int n2])), (a2, .inl (cA, (100, .inl f2))), (r3, .inr (0, [.ref a3, .int n3])), (a3, .inl (cA, (100, .inl f3))), (y0, .inr (2, [.int tv, .int (nI rn), .ref q1, .ref q2, .int mn, .ref q3, .ref q4, .int ct, .int il, .ref q5])), (q1, .inl (cA, (2, .inl sf))), (q2, .inl (cA, (60, .inl lf))), (q3, .inl (cA, (320, .inl rf))), (q4, .inl (cA, (320, .inl nf))), (q5, .inl (cA, (6, .inl gf))), (o, .inl (cL, (1, .inr (.inl fo))))] := hD
      refine lv_istore (lv' := [(5, .int 1), (4, .int (nI i)), (3, .ref o), (2, .ref y0), (1, .ref x0), (0, .ref b)]) hx hb dL_law_985 hl (by decide) rfl (fun ls hl => ?_)
      refine lv_aload_n hx hb dL_law_987 rfl (lv_at hl 3 rfl) ?_
      refine lv_aload_n hx hb dL_law_988 rfl (lv_at hl 5 rfl) ?_
      refine lv_iload hx hb dL_law_989 (lv_at hl 1 rfl) ?_
      refine lv_iconst (v := 1) hx hb dL_law_991 (by decide) ?_
      refine lv_iadd hx hb dL_law_992 ?_
      rw [show (nI i) + 1 = nI (i + 1) from nI_add i 1]
      refine va_sld hx hb hX hbl hbA hS (vp_in_nI (by omega) (by omega)) dL_law_993 ?_
      rw [show (nI (i + 1)).toNatClampNeg = i + 1 from nI_clamp (by omega)]
      rw [h1]
      refine lv_aload_n hx hb dL_law_994 rfl (lv_at hl 5 rfl) ?_
      refine lv_iload hx hb dL_law_995 (lv_at hl 1 rfl) ?_
      refine lv_iconst (v := 2) hx hb dL_law_997 (by decide) ?_
      refine lv_iadd hx hb dL_law_998 ?_
      rw [show (nI i) + 2 = nI (i + 2) from nI_add i 2]
      refine va_sld hx hb hX hbl hbA hS (vp_in_nI (by omega) (by omega)) dL_law_999 ?_
      rw [show (nI (i + 2)).toNatClampNeg = i + 2 from nI_clamp (by omega)]
      refine g_MVi (As := [.int (nI 0), .int (xs (i + 2))]) (rest := []) ⟨hx, hb, hml, hown, hts⟩ (mt_X2_handle_1b l dC dI cA H.size y0 q1 q2 q3 q4 q5 rn tv sf lf mn rf nf ct il gf 0 (xs (i + 2)) (by omega) (Or.inr hbad)) (cwV 2 hts gL_law_X2_handle rfl rfl rfl hdX2_handle ⟨Nat.le_of_ble_eq_true rfl, Nat.le_of_ble_eq_true rfl⟩) hP hK hD hS hA [9, 10, 11, 12, 13, 14] (by decide) rfl (va_recv hK hP (ci := 2) (q0 := 9) rfl rfl) rfl hl.1 rfl (Nat.le_of_ble_eq_true rfl) dL_law_1000 hc1 hs1 (fun u9 => [(x0, .inr (1, [.ref r0, .ref r1, .ref r2, .ref r3, .int (nI rn)])), (r0, .inr (0, [.ref a0, .int (nI L0.length)])), (a0, .inl (cA, (100, .inl f0))), (r1, .inr (0, [.ref a1, .int (nI L1.length)])), (a1, .inl (cA, (100, .inl f1))), (r2, .inr (0, [.ref a2, .int n2])), (a2, .inl (cA, (100, .inl f2))), (r3, .inr (0, [.ref a3, .int n3])), (a3, .inl (cA, (100, .inl f3))), (y0, .inr (2, [.int 1, .int (nI rn), .ref q1, .ref q2, .int mn, .ref q3, .ref q4, .int ct, .int il, .ref q5])), (q1, .inl (cA, (2, .inl sf))), (q2, .inl (cA, (60, .inl lf))), (q3, .inl (cA, (320, .inl rf))), (q4, .inl (cA, (320, .inl nf))), (q5, .inl (cA, (6, .inl gf))), (o, .inl (cL, (1, .inr (.inl fo))))]) (fun _ => rfl) (fun _ => rfl) (fun u H locs hw_2 hP hD hS => ?_)
      have hw_2 : True := hw_2
      have hP : va_P (dC, dI) vwCl [(x0, .inr (1, [.ref r0, .ref r1, .ref r2, .ref r3, .int (nI rn)])), (r0, .inr (0, [.ref a0, .int (nI L0.length)])), (a0, .inl (cA, (100, .inl f0))), (r1, .inr (0, [.ref a1, .int (nI L1.length)])), (a1, .inl (cA, (100, .inl f1))), (r2, .inr (0, [.ref a2, .int n2])), (a2, .inl (cA, (100, .inl f2))), (r3, .inr (0, [.ref a3, .int n3])), (a3, .inl (cA, (100, .inl f3))), (y0, .inr (2, [.int 1, .int (nI rn), .ref q1, .ref q2, .int mn, .ref q3, .ref q4, .int ct, .int il, .ref q5])), (q1, .inl (cA, (2, .inl sf))), (q2, .inl (cA, (60, .inl lf))), (q3, .inl (cA, (320, .inl rf))), (q4, .inl (cA, (320, .inl nf))), (q5, .inl (cA, (6, .inl gf))), (o, .inl (cL, (1, .inr (.inl fo))))] H := hP
      have hD : va_D A [(x0, .inr (1, [.ref r0, .ref r1, .ref r2, .ref r3, .int (nI rn)])), (r0, .inr (0, [.ref a0, .int (nI L0.length)])), (a0, .inl (cA, (100, .inl f0))), (r1, .inr (0, [.ref a1, .int (nI L1.length)])), (a1, .inl (cA, (100, .inl f1))), (r2, .inr (0, [.ref a2, .int n2])), (a2, .inl (cA, (100, .inl f2))), (r3, .inr (0, [.ref a3, .int n3])), (a3, .inl (cA, (100, .inl f3))), (y0, .inr (2, [.int 1, .int (nI rn), .ref q1, .ref q2, .int mn, .ref q3, .ref q4, .int ct, .int il, .ref q5])), (q1, .inl (cA, (2, .inl sf))), (q2, .inl (cA, (60, .inl lf))), (q3, .inl (cA, (320, .inl rf))), (q4, .inl (cA, (320, .inl nf))), (q5, .inl (cA, (6, .inl gf))), (o, .inl (cL, (1, .inr (.inl fo))))] := hD
      refine lv_istore (lv' := [(6, .int 0), (5, .int 1), (4, .int (nI i)), (3, .ref o), (2, .ref y0), (1, .ref x0), (0, .ref b)]) hx hb dL_law_1003 hl (by decide) rfl (fun ls hl => ?_)
      refine lv_aload_n hx hb dL_law_1005 rfl (lv_at hl 4 rfl) ?_
      refine g_RVi (As := []) (rest := []) ⟨hx, hb, hml, hown, hts⟩ (mt_X2_thrown l dC dI cA H.size y0 q1 q2 q3 q4 q5 rn 1 sf lf mn rf nf ct il gf) (cwV 0 hts gL_law_X2_thrown rfl rfl rfl hdX2_thrown ⟨Nat.le_of_ble_eq_true rfl, Nat.le_of_ble_eq_true rfl⟩) hP hK hD [9, 10, 11, 12, 13, 14] (by decide) rfl (va_recv hK hP (ci := 2) (q0 := 9) rfl rfl) rfl hl.1 rfl (Nat.le_of_ble_eq_true rfl) dL_law_1006 hc1 hs1 ?_
      refine lv_iload hx hb dL_law_1009 (lv_at hl 1 rfl) ?_
      refine lv_icmp_eq (tgt := 1016) hx hb dL_law_1011 (by decide) (fun c1011 => ?_) (fun c1011 => ?_)
      · refine lv_iload hx hb dL_law_1016 (lv_at hl 1 rfl) ?_
        refine lv_if_ne (tgt := 1033) hx hb dL_law_1018 (by decide) (fun c1018 => ?_) (fun c1018 => ?_)
        · have c1018 : ¬ 1 = 0 := g_neT 1 0 (by omega) (by omega) c1018
          refine lv_goto (tgt := 1241) hx hb dL_law_1033 (by decide) ?_
          exact kk rn L0 L1 _ _ _ _ _ ⟨f0, f1, n2, f2, n3, f3, 1, sf, lf, mn, rf, nf, ct, il, gf, fo, hP, hD, hS, hR0, hR1, hl0, hl1, hrn, hr6, hk0, hk1, hW⟩ (by omega) (by omega) (lv_sub hl [2, 3, 4, 5, 6] rfl)
        · exact absurd c1018 (by decide)
      · exact absurd (by decide) c1011
    · refine lv_aload_n hx hb dL_law_968 rfl (lv_at hl 3 rfl) ?_
      refine lv_aload_n hx hb dL_law_969 rfl (lv_at hl 4 rfl) ?_
      refine lv_iload hx hb dL_law_970 (lv_at hl 0 rfl) ?_
      refine lv_iconst (v := 1) hx hb dL_law_972 (by decide) ?_
      refine lv_iadd hx hb dL_law_973 ?_
      rw [show (nI i) + 1 = nI (i + 1) from nI_add i 1]
      refine va_sld hx hb hX hbl hbA hS (vp_in_nI (by omega) (by omega)) dL_law_974 ?_
      rw [show (nI (i + 1)).toNatClampNeg = i + 1 from nI_clamp (by omega)]
      rw [h1]
      refine lv_aload_n hx hb dL_law_975 rfl (lv_at hl 4 rfl) ?_
      refine lv_iload hx hb dL_law_976 (lv_at hl 0 rfl) ?_
      refine lv_iconst (v := 2) hx hb dL_law_978 (by decide) ?_
      refine lv_iadd hx hb dL_law_979 ?_
      rw [show (nI i) + 2 = nI (i + 2) from nI_add i 2]
      refine va_sld hx hb hX hbl hbA hS (vp_in_nI (by omega) (by omega)) dL_law_980 ?_
      rw [show (nI (i + 2)).toNatClampNeg = i + 2 from nI_clamp (by omega)]
      rw [h2]
      refine lv_aload_n hx hb dL_law_981 rfl (lv_at hl 1 rfl) ?_
      refine g_LS (As := [.ref x0, .int (nI 0), .int (nI q), .ref o]) (rest := []) ⟨hx, hb, hml, hown, hts⟩ (mt_L_handle0 l htr dC dI cA cL H.size x0 r0 r1 r2 r3 rn a0 L0 f0 q o fo hR0 hq) (vx_cwSW 4 hts gL_law_L_handle rfl rfl rfl hdL_handle ⟨Nat.le_of_ble_eq_true rfl, Nat.le_of_ble_eq_true rfl⟩) hP hKl hD hS hA hZ [0, 1, 2, 15] (by decide) rfl rfl hl.1 rfl (Nat.le_of_ble_eq_true rfl) dL_law_982 hc0 hs0 (fun u9 => [(x0, .inr (1, [.ref r0, .ref r1, .ref r2, .ref r3, .int (nI rn)])), (r0, .inr (0, [.ref a0, .int (nI L0.length)])), (a0, .inl (cA, (100, .inl f0))), (r1, .inr (0, [.ref a1, .int (nI L1.length)])), (a1, .inl (cA, (100, .inl f1))), (r2, .inr (0, [.ref a2, .int n2])), (a2, .inl (cA, (100, .inl f2))), (r3, .inr (0, [.ref a3, .int n3])), (a3, .inl (cA, (100, .inl f3))), (y0, .inr (2, [.int tv, .int (nI rn), .ref q1, .ref q2, .int mn, .ref q3, .ref q4, .int ct, .int il, .ref q5])), (q1, .inl (cA, (2, .inl sf))), (q2, .inl (cA, (60, .inl lf))), (q3, .inl (cA, (320, .inl rf))), (q4, .inl (cA, (320, .inl nf))), (q5, .inl (cA, (6, .inl gf))), (o, .inl (cL, (1, .inr (.inl (vp_updL fo 0 (haL L0 q).toInt64)))))]) (fun _ => rfl) (fun _ => rfl) (fun u H locs hw_1 hP hD hS => ?_)
      have hP : va_P (dC, dI) vwCl [(x0, .inr (1, [.ref r0, .ref r1, .ref r2, .ref r3, .int (nI rn)])), (r0, .inr (0, [.ref a0, .int (nI L0.length)])), (a0, .inl (cA, (100, .inl f0))), (r1, .inr (0, [.ref a1, .int (nI L1.length)])), (a1, .inl (cA, (100, .inl f1))), (r2, .inr (0, [.ref a2, .int n2])), (a2, .inl (cA, (100, .inl f2))), (r3, .inr (0, [.ref a3, .int n3])), (a3, .inl (cA, (100, .inl f3))), (y0, .inr (2, [.int tv, .int (nI rn), .ref q1, .ref q2, .int mn, .ref q3, .ref q4, .int ct, .int il, .ref q5])), (q1, .inl (cA, (2, .inl sf))), (q2, .inl (cA, (60, .inl lf))), (q3, .inl (cA, (320, .inl rf))), (q4, .inl (cA, (320, .inl nf))), (q5, .inl (cA, (6, .inl gf))), (o, .inl (cL, (1, .inr (.inl (vp_updL fo 0 (haL L0 q).toInt64)))))] H := hP
      have hD : va_D A [(x0, .inr (1, [.ref r0, .ref r1, .ref r2, .ref r3, .int (nI rn)])), (r0, .inr (0, [.ref a0, .int (nI L0.length)])), (a0, .inl (cA, (100, .inl f0))), (r1, .inr (0, [.ref a1, .int (nI L1.length)])), (a1, .inl (cA, (100, .inl f1))), (r2, .inr (0, [.ref a2, .int n2])), (a2, .inl (cA, (100, .inl f2))), (r3, .inr (0, [.ref a3, .int n3])), (a3, .inl (cA, (100, .inl f3))), (y0, .inr (2, [.int tv, .int (nI rn), .ref q1, .ref q2, .int mn, .ref q3, .ref q4, .int ct, .int il, .ref q5])), (q1, .inl (cA, (2, .inl sf))), (q2, .inl (cA, (60, .inl lf))), (q3, .inl (cA, (320, .inl rf))), (q4, .inl (cA, (320, .inl nf))), (q5, .inl (cA, (6, .inl gf))), (o, .inl (cL, (1, .inr (.inl (vp_updL fo 0 (haL L0 q).toInt64)))))] := hD
      refine lv_istore (lv' := [(5, .int 0), (4, .int (nI i)), (3, .ref o), (2, .ref y0), (1, .ref x0), (0, .ref b)]) hx hb dL_law_985 hl (by decide) rfl (fun ls hl => ?_)
      refine lv_aload_n hx hb dL_law_987 rfl (lv_at hl 3 rfl) ?_
      refine lv_aload_n hx hb dL_law_988 rfl (lv_at hl 5 rfl) ?_
      refine lv_iload hx hb dL_law_989 (lv_at hl 1 rfl) ?_
      refine lv_iconst (v := 1) hx hb dL_law_991 (by decide) ?_
      refine lv_iadd hx hb dL_law_992 ?_
      rw [show (nI i) + 1 = nI (i + 1) from nI_add i 1]
      refine va_sld hx hb hX hbl hbA hS (vp_in_nI (by omega) (by omega)) dL_law_993 ?_
      rw [show (nI (i + 1)).toNatClampNeg = i + 1 from nI_clamp (by omega)]
      rw [h1]
      refine lv_aload_n hx hb dL_law_994 rfl (lv_at hl 5 rfl) ?_
      refine lv_iload hx hb dL_law_995 (lv_at hl 1 rfl) ?_
      refine lv_iconst (v := 2) hx hb dL_law_997 (by decide) ?_
      refine lv_iadd hx hb dL_law_998 ?_
      rw [show (nI i) + 2 = nI (i + 2) from nI_add i 2]
      refine va_sld hx hb hX hbl hbA hS (vp_in_nI (by omega) (by omega)) dL_law_999 ?_
      rw [show (nI (i + 2)).toNatClampNeg = i + 2 from nI_clamp (by omega)]
      rw [h2]
      refine g_MVi (As := [.int (nI 0), .int (nI q)]) (rest := []) ⟨hx, hb, hml, hown, hts⟩ (mt_X2_handle l dC dI cA H.size y0 q1 q2 q3 q4 q5 rn tv sf lf mn rf nf ct il gf (V2 L0 L1) 0 q hW hrn hr6 hok (by omega) hq) (cwV 2 hts gL_law_X2_handle rfl rfl rfl hdX2_handle ⟨Nat.le_of_ble_eq_true rfl, Nat.le_of_ble_eq_true rfl⟩) hP hK hD hS hA [9, 10, 11, 12, 13, 14] (by decide) rfl (va_recv hK hP (ci := 2) (q0 := 9) rfl rfl) rfl hl.1 rfl (Nat.le_of_ble_eq_true rfl) dL_law_1000 hc0 hs0 (fun u9 => [(x0, .inr (1, [.ref r0, .ref r1, .ref r2, .ref r3, .int (nI rn)])), (r0, .inr (0, [.ref a0, .int (nI L0.length)])), (a0, .inl (cA, (100, .inl f0))), (r1, .inr (0, [.ref a1, .int (nI L1.length)])), (a1, .inl (cA, (100, .inl f1))), (r2, .inr (0, [.ref a2, .int n2])), (a2, .inl (cA, (100, .inl f2))), (r3, .inr (0, [.ref a3, .int n3])), (a3, .inl (cA, (100, .inl f3))), (y0, .inr (2, [.int 0, .int (nI rn), .ref q1, .ref q2, .int (nI (((V2 L0 L1) 0).length)), .ref q3, .ref q4, .int ct, .int il, .ref q5])), (q1, .inl (cA, (2, .inl sf))), (q2, .inl (cA, (60, .inl lf))), (q3, .inl (cA, (320, .inl u9))), (q4, .inl (cA, (320, .inl nf))), (q5, .inl (cA, (6, .inl gf))), (o, .inl (cL, (1, .inr (.inl (vp_updL fo 0 (haL L0 q).toInt64)))))]) (fun _ => rfl) (fun _ => rfl) (fun u H locs hw_3 hP hD hS => ?_)
      obtain ⟨r1_2, rfl⟩ : ∃ z, z = u := ⟨_, rfl⟩
      have hw_3 : True := hw_3
      have hP : va_P (dC, dI) vwCl [(x0, .inr (1, [.ref r0, .ref r1, .ref r2, .ref r3, .int (nI rn)])), (r0, .inr (0, [.ref a0, .int (nI L0.length)])), (a0, .inl (cA, (100, .inl f0))), (r1, .inr (0, [.ref a1, .int (nI L1.length)])), (a1, .inl (cA, (100, .inl f1))), (r2, .inr (0, [.ref a2, .int n2])), (a2, .inl (cA, (100, .inl f2))), (r3, .inr (0, [.ref a3, .int n3])), (a3, .inl (cA, (100, .inl f3))), (y0, .inr (2, [.int 0, .int (nI rn), .ref q1, .ref q2, .int (nI (((V2 L0 L1) 0).length)), .ref q3, .ref q4, .int ct, .int il, .ref q5])), (q1, .inl (cA, (2, .inl sf))), (q2, .inl (cA, (60, .inl lf))), (q3, .inl (cA, (320, .inl r1_2))), (q4, .inl (cA, (320, .inl nf))), (q5, .inl (cA, (6, .inl gf))), (o, .inl (cL, (1, .inr (.inl (vp_updL fo 0 (haL L0 q).toInt64)))))] H := hP
      have hD : va_D A [(x0, .inr (1, [.ref r0, .ref r1, .ref r2, .ref r3, .int (nI rn)])), (r0, .inr (0, [.ref a0, .int (nI L0.length)])), (a0, .inl (cA, (100, .inl f0))), (r1, .inr (0, [.ref a1, .int (nI L1.length)])), (a1, .inl (cA, (100, .inl f1))), (r2, .inr (0, [.ref a2, .int n2])), (a2, .inl (cA, (100, .inl f2))), (r3, .inr (0, [.ref a3, .int n3])), (a3, .inl (cA, (100, .inl f3))), (y0, .inr (2, [.int 0, .int (nI rn), .ref q1, .ref q2, .int (nI (((V2 L0 L1) 0).length)), .ref q3, .ref q4, .int ct, .int il, .ref q5])), (q1, .inl (cA, (2, .inl sf))), (q2, .inl (cA, (60, .inl lf))), (q3, .inl (cA, (320, .inl r1_2))), (q4, .inl (cA, (320, .inl nf))), (q5, .inl (cA, (6, .inl gf))), (o, .inl (cL, (1, .inr (.inl (vp_updL fo 0 (haL L0 q).toInt64)))))] := hD
      refine lv_istore (lv' := [(6, .int (haL ((V2 L0 L1) 0) q)), (5, .int 0), (4, .int (nI i)), (3, .ref o), (2, .ref y0), (1, .ref x0), (0, .ref b)]) hx hb dL_law_1003 hl (by decide) rfl (fun ls hl => ?_)
      refine lv_aload_n hx hb dL_law_1005 rfl (lv_at hl 4 rfl) ?_
      refine g_RVi (As := []) (rest := []) ⟨hx, hb, hml, hown, hts⟩ (mt_X2_thrown l dC dI cA H.size y0 q1 q2 q3 q4 q5 rn 0 sf lf (nI (((V2 L0 L1) 0).length)) r1_2 nf ct il gf) (cwV 0 hts gL_law_X2_thrown rfl rfl rfl hdX2_thrown ⟨Nat.le_of_ble_eq_true rfl, Nat.le_of_ble_eq_true rfl⟩) hP hK hD [9, 10, 11, 12, 13, 14] (by decide) rfl (va_recv hK hP (ci := 2) (q0 := 9) rfl rfl) rfl hl.1 rfl (Nat.le_of_ble_eq_true rfl) dL_law_1006 hc0 hs0 ?_
      refine lv_iload hx hb dL_law_1009 (lv_at hl 1 rfl) ?_
      refine lv_icmp_eq (tgt := 1016) hx hb dL_law_1011 (by decide) (fun c1011 => ?_) (fun c1011 => ?_)
      · refine lv_iload hx hb dL_law_1016 (lv_at hl 1 rfl) ?_
        refine lv_if_ne (tgt := 1033) hx hb dL_law_1018 (by decide) (fun c1018 => ?_) (fun c1018 => ?_)
        · exact absurd (by decide) c1018
        · have c1018 : 0 = 0 := g_neF 0 0 (by omega) (by omega) c1018
          refine lv_aload_n hx hb dL_law_1021 rfl (lv_at hl 3 rfl) ?_
          refine lv_iconst (v := 0) hx hb dL_law_1022 (by decide) ?_
          refine va_lald hx hb hKl hP 15 1 rfl rfl (vp_in_nI (n := 0) (by omega) (by decide)) dL_law_1023 ?_
          rw [show (0 : Int32).toNatClampNeg = 0 from by decide, pk_uLs]
          refine lv_iload hx hb dL_law_1024 (lv_at hl 0 rfl) ?_
          refine lv_i2l (v := (haL ((V2 L0 L1) 0) q).toInt64) hx hb dL_law_1026 rfl ?_
          refine W.lcmp hx hb dL_law_1027 ?_
          rw [show lg_cmp ((haL L0 q).toInt64) ((haL ((V2 L0 L1) 0) q).toInt64) = 0 from (lg_cmp_eq _ _).mpr rfl]
          refine lv_if_eq (tgt := 1033) hx hb dL_law_1028 (by decide) (fun c1028 => ?_) (fun c1028 => ?_)
          · have c1028 : 0 = 0 := g_eqT 0 0 (by omega) (by omega) c1028
            refine lv_goto (tgt := 1241) hx hb dL_law_1033 (by decide) ?_
            exact kk rn L0 L1 _ _ _ _ _ ⟨f0, f1, n2, f2, n3, f3, 0, sf, lf, nI (((V2 L0 L1) 0).length), r1_2, nf, ct, il, gf, vp_updL fo 0 (haL L0 q).toInt64, hP, hD, hS, hR0, hR1, hl0, hl1, hrn, hr6, hk0, hk1, hW⟩ (by omega) (by omega) (lv_sub hl [2, 3, 4, 5, 6] rfl)
          · exact absurd (by decide) c1028
      · exact absurd (by decide) c1011
  · rcases pk_ix (xs (i + 2)) (n := 3) (by decide) with hbad | hbad | ⟨q, hq, h2⟩
    · refine lv_aload_n hx hb dL_law_968 rfl (lv_at hl 3 rfl) ?_
      refine lv_aload_n hx hb dL_law_969 rfl (lv_at hl 4 rfl) ?_
      refine lv_iload hx hb dL_law_970 (lv_at hl 0 rfl) ?_
      refine lv_iconst (v := 1) hx hb dL_law_972 (by decide) ?_
      refine lv_iadd hx hb dL_law_973 ?_
      rw [show (nI i) + 1 = nI (i + 1) from nI_add i 1]
      refine va_sld hx hb hX hbl hbA hS (vp_in_nI (by omega) (by omega)) dL_law_974 ?_
      rw [show (nI (i + 1)).toNatClampNeg = i + 1 from nI_clamp (by omega)]
      rw [h1]
      refine lv_aload_n hx hb dL_law_975 rfl (lv_at hl 4 rfl) ?_
      refine lv_iload hx hb dL_law_976 (lv_at hl 0 rfl) ?_
      refine lv_iconst (v := 2) hx hb dL_law_978 (by decide) ?_
      refine lv_iadd hx hb dL_law_979 ?_
      rw [show (nI i) + 2 = nI (i + 2) from nI_add i 2]
      refine va_sld hx hb hX hbl hbA hS (vp_in_nI (by omega) (by omega)) dL_law_980 ?_
      rw [show (nI (i + 2)).toNatClampNeg = i + 2 from nI_clamp (by omega)]
      refine lv_aload_n hx hb dL_law_981 rfl (lv_at hl 1 rfl) ?_
      refine g_LS (As := [.ref x0, .int (nI 1), .int (xs (i + 2)), .ref o]) (rest := []) ⟨hx, hb, hml, hown, hts⟩ (mt_L_handle_1b_1 l htr dC dI cA cL H.size x0 r0 r1 r2 r3 rn (xs (i + 2)) o fo (Or.inl hbad)) (vx_cwSW 4 hts gL_law_L_handle rfl rfl rfl hdL_handle ⟨Nat.le_of_ble_eq_true rfl, Nat.le_of_ble_eq_true rfl⟩) hP hKl hD hS hA hZ [0, 15] (by decide) rfl rfl hl.1 rfl (Nat.le_of_ble_eq_true rfl) dL_law_982 hc1 hs1 (fun u9 => [(x0, .inr (1, [.ref r0, .ref r1, .ref r2, .ref r3, .int (nI rn)])), (r0, .inr (0, [.ref a0, .int (nI L0.length)])), (a0, .inl (cA, (100, .inl f0))), (r1, .inr (0, [.ref a1, .int (nI L1.length)])), (a1, .inl (cA, (100, .inl f1))), (r2, .inr (0, [.ref a2, .int n2])), (a2, .inl (cA, (100, .inl f2))), (r3, .inr (0, [.ref a3, .int n3])), (a3, .inl (cA, (100, .inl f3))), (y0, .inr (2, [.int tv, .int (nI rn), .ref q1, .ref q2, .int mn, .ref q3, .ref q4, .int ct, .int il, .ref q5])), (q1, .inl (cA, (2, .inl sf))), (q2, .inl (cA, (60, .inl lf))), (q3, .inl (cA, (320, .inl rf))), (q4, .inl (cA, (320, .inl nf))), (q5, .inl (cA, (6, .inl gf))), (o, .inl (cL, (1, .inr (.inl fo))))]) (fun _ => rfl) (fun _ => rfl) (fun u H locs hw_1 hP hD hS => ?_)
      have hP : va_P (dC, dI) vwCl [(x0, .inr (1, [.ref r0, .ref r1, .ref r2, .ref r3, .int (nI rn)])), (r0, .inr (0, [.ref a0, .int (nI L0.length)])), (a0, .inl (cA, (100, .inl f0))), (r1, .inr (0, [.ref a1, .int (nI L1.length)])), (a1, .inl (cA, (100, .inl f1))), (r2, .inr (0, [.ref a2, .int n2])), (a2, .inl (cA, (100, .inl f2))), (r3, .inr (0, [.ref a3, .int n3])), (a3, .inl (cA, (100, .inl f3))), (y0, .inr (2, [.int tv, .int (nI rn), .ref q1, .ref q2, .int mn, .ref q3, .ref q4, .int ct, .int il, .ref q5])), (q1, .inl (cA, (2, .inl sf))), (q2, .inl (cA, (60, .inl lf))), (q3, .inl (cA, (320, .inl rf))), (q4, .inl (cA, (320, .inl nf))), (q5, .inl (cA, (6, .inl gf))), (o, .inl (cL, (1, .inr (.inl fo))))] H := hP
      have hD : va_D A [(x0, .inr (1, [.ref r0, .ref r1, .ref r2, .ref r3, .int (nI rn)])), (r0, .inr (0, [.ref a0, .int (nI L0.length)])), (a0, .inl (cA, (100, .inl f0))), (r1, .inr (0, [.ref a1, .int (nI L1.length)])), (a1, .inl (cA, (100, .inl f1))), (r2, .inr (0, [.ref a2, .int n2])), (a2, .inl (cA, (100, .inl f2))), (r3, .inr (0, [.ref a3, .int n3])), (a3, .inl (cA, (100, .inl f3))), (y0, .inr (2, [.int tv, .int (nI rn), .ref q1, .ref q2, .int mn, .ref q3, .ref q4, .int ct, .int il, .ref q5])), (q1, .inl (cA, (2, .inl sf))), (q2, .inl (cA, (60, .inl lf))), (q3, .inl (cA, (320, .inl rf))), (q4, .inl (cA, (320, .inl nf))), (q5, .inl (cA, (6, .inl gf))), (o, .inl (cL, (1, .inr (.inl fo))))] := hD
      refine lv_istore (lv' := [(5, .int 1), (4, .int (nI i)), (3, .ref o), (2, .ref y0), (1, .ref x0), (0, .ref b)]) hx hb dL_law_985 hl (by decide) rfl (fun ls hl => ?_)
      refine lv_aload_n hx hb dL_law_987 rfl (lv_at hl 3 rfl) ?_
      refine lv_aload_n hx hb dL_law_988 rfl (lv_at hl 5 rfl) ?_
      refine lv_iload hx hb dL_law_989 (lv_at hl 1 rfl) ?_
      refine lv_iconst (v := 1) hx hb dL_law_991 (by decide) ?_
      refine lv_iadd hx hb dL_law_992 ?_
      rw [show (nI i) + 1 = nI (i + 1) from nI_add i 1]
      refine va_sld hx hb hX hbl hbA hS (vp_in_nI (by omega) (by omega)) dL_law_993 ?_
      rw [show (nI (i + 1)).toNatClampNeg = i + 1 from nI_clamp (by omega)]
      rw [h1]
      refine lv_aload_n hx hb dL_law_994 rfl (lv_at hl 5 rfl) ?_
      refine lv_iload hx hb dL_law_995 (lv_at hl 1 rfl) ?_
      refine lv_iconst (v := 2) hx hb dL_law_997 (by decide) ?_
      refine lv_iadd hx hb dL_law_998 ?_
      rw [show (nI i) + 2 = nI (i + 2) from nI_add i 2]
      refine va_sld hx hb hX hbl hbA hS (vp_in_nI (by omega) (by omega)) dL_law_999 ?_
      rw [show (nI (i + 2)).toNatClampNeg = i + 2 from nI_clamp (by omega)]
      refine g_MVi (As := [.int (nI 1), .int (xs (i + 2))]) (rest := []) ⟨hx, hb, hml, hown, hts⟩ (mt_X2_handle_1b l dC dI cA H.size y0 q1 q2 q3 q4 q5 rn tv sf lf mn rf nf ct il gf 1 (xs (i + 2)) (by omega) (Or.inl hbad)) (cwV 2 hts gL_law_X2_handle rfl rfl rfl hdX2_handle ⟨Nat.le_of_ble_eq_true rfl, Nat.le_of_ble_eq_true rfl⟩) hP hK hD hS hA [9, 10, 11, 12, 13, 14] (by decide) rfl (va_recv hK hP (ci := 2) (q0 := 9) rfl rfl) rfl hl.1 rfl (Nat.le_of_ble_eq_true rfl) dL_law_1000 hc1 hs1 (fun u9 => [(x0, .inr (1, [.ref r0, .ref r1, .ref r2, .ref r3, .int (nI rn)])), (r0, .inr (0, [.ref a0, .int (nI L0.length)])), (a0, .inl (cA, (100, .inl f0))), (r1, .inr (0, [.ref a1, .int (nI L1.length)])), (a1, .inl (cA, (100, .inl f1))), (r2, .inr (0, [.ref a2, .int n2])), (a2, .inl (cA, (100, .inl f2))), (r3, .inr (0, [.ref a3, .int n3])), (a3, .inl (cA, (100, .inl f3))), (y0, .inr (2, [.int 1, .int (nI rn), .ref q1, .ref q2, .int mn, .ref q3, .ref q4, .int ct, .int il, .ref q5])), (q1, .inl (cA, (2, .inl sf))), (q2, .inl (cA, (60, .inl lf))), (q3, .inl (cA, (320, .inl rf))), (q4, .inl (cA, (320, .inl nf))), (q5, .inl (cA, (6, .inl gf))), (o, .inl (cL, (1, .inr (.inl fo))))]) (fun _ => rfl) (fun _ => rfl) (fun u H locs hw_2 hP hD hS => ?_)
      have hw_2 : True := hw_2
      have hP : va_P (dC, dI) vwCl [(x0, .inr (1, [.ref r0, .ref r1, .ref r2, .ref r3, .int (nI rn)])), (r0, .inr (0, [.ref a0, .int (nI L0.length)])), (a0, .inl (cA, (100, .inl f0))), (r1, .inr (0, [.ref a1, .int (nI L1.length)])), (a1, .inl (cA, (100, .inl f1))), (r2, .inr (0, [.ref a2, .int n2])), (a2, .inl (cA, (100, .inl f2))), (r3, .inr (0, [.ref a3, .int n3])), (a3, .inl (cA, (100, .inl f3))), (y0, .inr (2, [.int 1, .int (nI rn), .ref q1, .ref q2, .int mn, .ref q3, .ref q4, .int ct, .int il, .ref q5])), (q1, .inl (cA, (2, .inl sf))), (q2, .inl (cA, (60, .inl lf))), (q3, .inl (cA, (320, .inl rf))), (q4, .inl (cA, (320, .inl nf))), (q5, .inl (cA, (6, .inl gf))), (o, .inl (cL, (1, .inr (.inl fo))))] H := hP
      have hD : va_D A [(x0, .inr (1, [.ref r0, .ref r1, .ref r2, .ref r3, .int (nI rn)])), (r0, .inr (0, [.ref a0, .int (nI L0.length)])), (a0, .inl (cA, (100, .inl f0))), (r1, .inr (0, [.ref a1, .int (nI L1.length)])), (a1, .inl (cA, (100, .inl f1))), (r2, .inr (0, [.ref a2, .int n2])), (a2, .inl (cA, (100, .inl f2))), (r3, .inr (0, [.ref a3, .int n3])), (a3, .inl (cA, (100, .inl f3))), (y0, .inr (2, [.int 1, .int (nI rn), .ref q1, .ref q2, .int mn, .ref q3, .ref q4, .int ct, .int il, .ref q5])), (q1, .inl (cA, (2, .inl sf))), (q2, .inl (cA, (60, .inl lf))), (q3, .inl (cA, (320, .inl rf))), (q4, .inl (cA, (320, .inl nf))), (q5, .inl (cA, (6, .inl gf))), (o, .inl (cL, (1, .inr (.inl fo))))] := hD
      refine lv_istore (lv' := [(6, .int 0), (5, .int 1), (4, .int (nI i)), (3, .ref o), (2, .ref y0), (1, .ref x0), (0, .ref b)]) hx hb dL_law_1003 hl (by decide) rfl (fun ls hl => ?_)
      refine lv_aload_n hx hb dL_law_1005 rfl (lv_at hl 4 rfl) ?_
      refine g_RVi (As := []) (rest := []) ⟨hx, hb, hml, hown, hts⟩ (mt_X2_thrown l dC dI cA H.size y0 q1 q2 q3 q4 q5 rn 1 sf lf mn rf nf ct il gf) (cwV 0 hts gL_law_X2_thrown rfl rfl rfl hdX2_thrown ⟨Nat.le_of_ble_eq_true rfl, Nat.le_of_ble_eq_true rfl⟩) hP hK hD [9, 10, 11, 12, 13, 14] (by decide) rfl (va_recv hK hP (ci := 2) (q0 := 9) rfl rfl) rfl hl.1 rfl (Nat.le_of_ble_eq_true rfl) dL_law_1006 hc1 hs1 ?_
      refine lv_iload hx hb dL_law_1009 (lv_at hl 1 rfl) ?_
      refine lv_icmp_eq (tgt := 1016) hx hb dL_law_1011 (by decide) (fun c1011 => ?_) (fun c1011 => ?_)
      · refine lv_iload hx hb dL_law_1016 (lv_at hl 1 rfl) ?_
        refine lv_if_ne (tgt := 1033) hx hb dL_law_1018 (by decide) (fun c1018 => ?_) (fun c1018 => ?_)
        · have c1018 : ¬ 1 = 0 := g_neT 1 0 (by omega) (by omega) c1018
          refine lv_goto (tgt := 1241) hx hb dL_law_1033 (by decide) ?_
          exact kk rn L0 L1 _ _ _ _ _ ⟨f0, f1, n2, f2, n3, f3, 1, sf, lf, mn, rf, nf, ct, il, gf, fo, hP, hD, hS, hR0, hR1, hl0, hl1, hrn, hr6, hk0, hk1, hW⟩ (by omega) (by omega) (lv_sub hl [2, 3, 4, 5, 6] rfl)
        · exact absurd c1018 (by decide)
      · exact absurd (by decide) c1011
    · refine lv_aload_n hx hb dL_law_968 rfl (lv_at hl 3 rfl) ?_
      refine lv_aload_n hx hb dL_law_969 rfl (lv_at hl 4 rfl) ?_
      refine lv_iload hx hb dL_law_970 (lv_at hl 0 rfl) ?_
      refine lv_iconst (v := 1) hx hb dL_law_972 (by decide) ?_
      refine lv_iadd hx hb dL_law_973 ?_
      rw [show (nI i) + 1 = nI (i + 1) from nI_add i 1]
      refine va_sld hx hb hX hbl hbA hS (vp_in_nI (by omega) (by omega)) dL_law_974 ?_
      rw [show (nI (i + 1)).toNatClampNeg = i + 1 from nI_clamp (by omega)]
      rw [h1]
      refine lv_aload_n hx hb dL_law_975 rfl (lv_at hl 4 rfl) ?_
      refine lv_iload hx hb dL_law_976 (lv_at hl 0 rfl) ?_
      refine lv_iconst (v := 2) hx hb dL_law_978 (by decide) ?_
      refine lv_iadd hx hb dL_law_979 ?_
      rw [show (nI i) + 2 = nI (i + 2) from nI_add i 2]
      refine va_sld hx hb hX hbl hbA hS (vp_in_nI (by omega) (by omega)) dL_law_980 ?_
      rw [show (nI (i + 2)).toNatClampNeg = i + 2 from nI_clamp (by omega)]
      refine lv_aload_n hx hb dL_law_981 rfl (lv_at hl 1 rfl) ?_
      refine g_LS (As := [.ref x0, .int (nI 1), .int (xs (i + 2)), .ref o]) (rest := []) ⟨hx, hb, hml, hown, hts⟩ (mt_L_handle_1b_1 l htr dC dI cA cL H.size x0 r0 r1 r2 r3 rn (xs (i + 2)) o fo (Or.inr hbad)) (vx_cwSW 4 hts gL_law_L_handle rfl rfl rfl hdL_handle ⟨Nat.le_of_ble_eq_true rfl, Nat.le_of_ble_eq_true rfl⟩) hP hKl hD hS hA hZ [0, 15] (by decide) rfl rfl hl.1 rfl (Nat.le_of_ble_eq_true rfl) dL_law_982 hc1 hs1 (fun u9 => [(x0, .inr (1, [.ref r0, .ref r1, .ref r2, .ref r3, .int (nI rn)])), (r0, .inr (0, [.ref a0, .int (nI L0.length)])), (a0, .inl (cA, (100, .inl f0))), (r1, .inr (0, [.ref a1, .int (nI L1.length)])), (a1, .inl (cA, (100, .inl f1))), (r2, .inr (0, [.ref a2, .int n2])), (a2, .inl (cA, (100, .inl f2))), (r3, .inr (0, [.ref a3, .int n3])), (a3, .inl (cA, (100, .inl f3))), (y0, .inr (2, [.int tv, .int (nI rn), .ref q1, .ref q2, .int mn, .ref q3, .ref q4, .int ct, .int il, .ref q5])), (q1, .inl (cA, (2, .inl sf))), (q2, .inl (cA, (60, .inl lf))), (q3, .inl (cA, (320, .inl rf))), (q4, .inl (cA, (320, .inl nf))), (q5, .inl (cA, (6, .inl gf))), (o, .inl (cL, (1, .inr (.inl fo))))]) (fun _ => rfl) (fun _ => rfl) (fun u H locs hw_1 hP hD hS => ?_)
      have hP : va_P (dC, dI) vwCl [(x0, .inr (1, [.ref r0, .ref r1, .ref r2, .ref r3, .int (nI rn)])), (r0, .inr (0, [.ref a0, .int (nI L0.length)])), (a0, .inl (cA, (100, .inl f0))), (r1, .inr (0, [.ref a1, .int (nI L1.length)])), (a1, .inl (cA, (100, .inl f1))), (r2, .inr (0, [.ref a2, .int n2])), (a2, .inl (cA, (100, .inl f2))), (r3, .inr (0, [.ref a3, .int n3])), (a3, .inl (cA, (100, .inl f3))), (y0, .inr (2, [.int tv, .int (nI rn), .ref q1, .ref q2, .int mn, .ref q3, .ref q4, .int ct, .int il, .ref q5])), (q1, .inl (cA, (2, .inl sf))), (q2, .inl (cA, (60, .inl lf))), (q3, .inl (cA, (320, .inl rf))), (q4, .inl (cA, (320, .inl nf))), (q5, .inl (cA, (6, .inl gf))), (o, .inl (cL, (1, .inr (.inl fo))))] H := hP
      have hD : va_D A [(x0, .inr (1, [.ref r0, .ref r1, .ref r2, .ref r3, .int (nI rn)])), (r0, .inr (0, [.ref a0, .int (nI L0.length)])), (a0, .inl (cA, (100, .inl f0))), (r1, .inr (0, [.ref a1, .int (nI L1.length)])), (a1, .inl (cA, (100, .inl f1))), (r2, .inr (0, [.ref a2, .int n2])), (a2, .inl (cA, (100, .inl f2))), (r3, .inr (0, [.ref a3, .int n3])), (a3, .inl (cA, (100, .inl f3))), (y0, .inr (2, [.int tv, .int (nI rn), .ref q1, .ref q2, .int mn, .ref q3, .ref q4, .int ct, .int il, .ref q5])), (q1, .inl (cA, (2, .inl sf))), (q2, .inl (cA, (60, .inl lf))), (q3, .inl (cA, (320, .inl rf))), (q4, .inl (cA, (320, .inl nf))), (q5, .inl (cA, (6, .inl gf))), (o, .inl (cL, (1, .inr (.inl fo))))] := hD
      refine lv_istore (lv' := [(5, .int 1), (4, .int (nI i)), (3, .ref o), (2, .ref y0), (1, .ref x0), (0, .ref b)]) hx hb dL_law_985 hl (by decide) rfl (fun ls hl => ?_)
      refine lv_aload_n hx hb dL_law_987 rfl (lv_at hl 3 rfl) ?_
      refine lv_aload_n hx hb dL_law_988 rfl (lv_at hl 5 rfl) ?_
      refine lv_iload hx hb dL_law_989 (lv_at hl 1 rfl) ?_
      refine lv_iconst (v := 1) hx hb dL_law_991 (by decide) ?_
      refine lv_iadd hx hb dL_law_992 ?_
      rw [show (nI i) + 1 = nI (i + 1) from nI_add i 1]
      refine va_sld hx hb hX hbl hbA hS (vp_in_nI (by omega) (by omega)) dL_law_993 ?_
      rw [show (nI (i + 1)).toNatClampNeg = i + 1 from nI_clamp (by omega)]
      rw [h1]
      refine lv_aload_n hx hb dL_law_994 rfl (lv_at hl 5 rfl) ?_
      refine lv_iload hx hb dL_law_995 (lv_at hl 1 rfl) ?_
      refine lv_iconst (v := 2) hx hb dL_law_997 (by decide) ?_
      refine lv_iadd hx hb dL_law_998 ?_
      rw [show (nI i) + 2 = nI (i + 2) from nI_add i 2]
      refine va_sld hx hb hX hbl hbA hS (vp_in_nI (by omega) (by omega)) dL_law_999 ?_
      rw [show (nI (i + 2)).toNatClampNeg = i + 2 from nI_clamp (by omega)]
      refine g_MVi (As := [.int (nI 1), .int (xs (i + 2))]) (rest := []) ⟨hx, hb, hml, hown, hts⟩ (mt_X2_handle_1b l dC dI cA H.size y0 q1 q2 q3 q4 q5 rn tv sf lf mn rf nf ct il gf 1 (xs (i + 2)) (by omega) (Or.inr hbad)) (cwV 2 hts gL_law_X2_handle rfl rfl rfl hdX2_handle ⟨Nat.le_of_ble_eq_true rfl, Nat.le_of_ble_eq_true rfl⟩) hP hK hD hS hA [9, 10, 11, 12, 13, 14] (by decide) rfl (va_recv hK hP (ci := 2) (q0 := 9) rfl rfl) rfl hl.1 rfl (Nat.le_of_ble_eq_true rfl) dL_law_1000 hc1 hs1 (fun u9 => [(x0, .inr (1, [.ref r0, .ref r1, .ref r2, .ref r3, .int (nI rn)])), (r0, .inr (0, [.ref a0, .int (nI L0.length)])), (a0, .inl (cA, (100, .inl f0))), (r1, .inr (0, [.ref a1, .int (nI L1.length)])), (a1, .inl (cA, (100, .inl f1))), (r2, .inr (0, [.ref a2, .int n2])), (a2, .inl (cA, (100, .inl f2))), (r3, .inr (0, [.ref a3, .int n3])), (a3, .inl (cA, (100, .inl f3))), (y0, .inr (2, [.int 1, .int (nI rn), .ref q1, .ref q2, .int mn, .ref q3, .ref q4, .int ct, .int il, .ref q5])), (q1, .inl (cA, (2, .inl sf))), (q2, .inl (cA, (60, .inl lf))), (q3, .inl (cA, (320, .inl rf))), (q4, .inl (cA, (320, .inl nf))), (q5, .inl (cA, (6, .inl gf))), (o, .inl (cL, (1, .inr (.inl fo))))]) (fun _ => rfl) (fun _ => rfl) (fun u H locs hw_2 hP hD hS => ?_)
      have hw_2 : True := hw_2
      have hP : va_P (dC, dI) vwCl [(x0, .inr (1, [.ref r0, .ref r1, .ref r2, .ref r3, .int (nI rn)])), (r0, .inr (0, [.ref a0, .int (nI L0.length)])), (a0, .inl (cA, (100, .inl f0))), (r1, .inr (0, [.ref a1, .int (nI L1.length)])), (a1, .inl (cA, (100, .inl f1))), (r2, .inr (0, [.ref a2, .int n2])), (a2, .inl (cA, (100, .inl f2))), (r3, .inr (0, [.ref a3, .int n3])), (a3, .inl (cA, (100, .inl f3))), (y0, .inr (2, [.int 1, .int (nI rn), .ref q1, .ref q2, .int mn, .ref q3, .ref q4, .int ct, .int il, .ref q5])), (q1, .inl (cA, (2, .inl sf))), (q2, .inl (cA, (60, .inl lf))), (q3, .inl (cA, (320, .inl rf))), (q4, .inl (cA, (320, .inl nf))), (q5, .inl (cA, (6, .inl gf))), (o, .inl (cL, (1, .inr (.inl fo))))] H := hP
      have hD : va_D A [(x0, .inr (1, [.ref r0, .ref r1, .ref r2, .ref r3, .int (nI rn)])), (r0, .inr (0, [.ref a0, .int (nI L0.length)])), (a0, .inl (cA, (100, .inl f0))), (r1, .inr (0, [.ref a1, .int (nI L1.length)])), (a1, .inl (cA, (100, .inl f1))), (r2, .inr (0, [.ref a2, .int n2])), (a2, .inl (cA, (100, .inl f2))), (r3, .inr (0, [.ref a3, .int n3])), (a3, .inl (cA, (100, .inl f3))), (y0, .inr (2, [.int 1, .int (nI rn), .ref q1, .ref q2, .int mn, .ref q3, .ref q4, .int ct, .int il, .ref q5])), (q1, .inl (cA, (2, .inl sf))), (q2, .inl (cA, (60, .inl lf))), (q3, .inl (cA, (320, .inl rf))), (q4, .inl (cA, (320, .inl nf))), (q5, .inl (cA, (6, .inl gf))), (o, .inl (cL, (1, .inr (.inl fo))))] := hD
      refine lv_istore (lv' := [(6, .int 0), (5, .int 1), (4, .int (nI i)), (3, .ref o), (2, .ref y0), (1, .ref x0), (0, .ref b)]) hx hb dL_law_1003 hl (by decide) rfl (fun ls hl => ?_)
      refine lv_aload_n hx hb dL_law_1005 rfl (lv_at hl 4 rfl) ?_
      refine g_RVi (As := []) (rest := []) ⟨hx, hb, hml, hown, hts⟩ (mt_X2_thrown l dC dI cA H.size y0 q1 q2 q3 q4 q5 rn 1 sf lf mn rf nf ct il gf) (cwV 0 hts gL_law_X2_thrown rfl rfl rfl hdX2_thrown ⟨Nat.le_of_ble_eq_true rfl, Nat.le_of_ble_eq_true rfl⟩) hP hK hD [9, 10, 11, 12, 13, 14] (by decide) rfl (va_recv hK hP (ci := 2) (q0 := 9) rfl rfl) rfl hl.1 rfl (Nat.le_of_ble_eq_true rfl) dL_law_1006 hc1 hs1 ?_
      refine lv_iload hx hb dL_law_1009 (lv_at hl 1 rfl) ?_
      refine lv_icmp_eq (tgt := 1016) hx hb dL_law_1011 (by decide) (fun c1011 => ?_) (fun c1011 => ?_)
      · refine lv_iload hx hb dL_law_1016 (lv_at hl 1 rfl) ?_
        refine lv_if_ne (tgt := 1033) hx hb dL_law_1018 (by decide) (fun c1018 => ?_) (fun c1018 => ?_)
        · have c1018 : ¬ 1 = 0 := g_neT 1 0 (by omega) (by omega) c1018
          refine lv_goto (tgt := 1241) hx hb dL_law_1033 (by decide) ?_
          exact kk rn L0 L1 _ _ _ _ _ ⟨f0, f1, n2, f2, n3, f3, 1, sf, lf, mn, rf, nf, ct, il, gf, fo, hP, hD, hS, hR0, hR1, hl0, hl1, hrn, hr6, hk0, hk1, hW⟩ (by omega) (by omega) (lv_sub hl [2, 3, 4, 5, 6] rfl)
        · exact absurd c1018 (by decide)
      · exact absurd (by decide) c1011
    · refine lv_aload_n hx hb dL_law_968 rfl (lv_at hl 3 rfl) ?_
      refine lv_aload_n hx hb dL_law_969 rfl (lv_at hl 4 rfl) ?_
      refine lv_iload hx hb dL_law_970 (lv_at hl 0 rfl) ?_
      refine lv_iconst (v := 1) hx hb dL_law_972 (by decide) ?_
      refine lv_iadd hx hb dL_law_973 ?_
      rw [show (nI i) + 1 = nI (i + 1) from nI_add i 1]
      refine va_sld hx hb hX hbl hbA hS (vp_in_nI (by omega) (by omega)) dL_law_974 ?_
      rw [show (nI (i + 1)).toNatClampNeg = i + 1 from nI_clamp (by omega)]
      rw [h1]
      refine lv_aload_n hx hb dL_law_975 rfl (lv_at hl 4 rfl) ?_
      refine lv_iload hx hb dL_law_976 (lv_at hl 0 rfl) ?_
      refine lv_iconst (v := 2) hx hb dL_law_978 (by decide) ?_
      refine lv_iadd hx hb dL_law_979 ?_
      rw [show (nI i) + 2 = nI (i + 2) from nI_add i 2]
      refine va_sld hx hb hX hbl hbA hS (vp_in_nI (by omega) (by omega)) dL_law_980 ?_
      rw [show (nI (i + 2)).toNatClampNeg = i + 2 from nI_clamp (by omega)]
      rw [h2]
      refine lv_aload_n hx hb dL_law_981 rfl (lv_at hl 1 rfl) ?_
      refine g_LS (As := [.ref x0, .int (nI 1), .int (nI q), .ref o]) (rest := []) ⟨hx, hb, hml, hown, hts⟩ (mt_L_handle1 l htr dC dI cA cL H.size x0 r0 r1 r2 r3 rn a1 L1 f1 q o fo hR1 hq) (vx_cwSW 4 hts gL_law_L_handle rfl rfl rfl hdL_handle ⟨Nat.le_of_ble_eq_true rfl, Nat.le_of_ble_eq_true rfl⟩) hP hKl hD hS hA hZ [0, 3, 4, 15] (by decide) rfl rfl hl.1 rfl (Nat.le_of_ble_eq_true rfl) dL_law_982 hc0 hs0 (fun u9 => [(x0, .inr (1, [.ref r0, .ref r1, .ref r2, .ref r3, .int (nI rn)])), (r0, .inr (0, [.ref a0, .int (nI L0.length)])), (a0, .inl (cA, (100, .inl f0))), (r1, .inr (0, [.ref a1, .int (nI L1.length)])), (a1, .inl (cA, (100, .inl f1))), (r2, .inr (0, [.ref a2, .int n2])), (a2, .inl (cA, (100, .inl f2))), (r3, .inr (0, [.ref a3, .int n3])), (a3, .inl (cA, (100, .inl f3))), (y0, .inr (2, [.int tv, .int (nI rn), .ref q1, .ref q2, .int mn, .ref q3, .ref q4, .int ct, .int il, .ref q5])), (q1, .inl (cA, (2, .inl sf))), (q2, .inl (cA, (60, .inl lf))), (q3, .inl (cA, (320, .inl rf))), (q4, .inl (cA, (320, .inl nf))), (q5, .inl (cA, (6, .inl gf))), (o, .inl (cL, (1, .inr (.inl (vp_updL fo 0 (haL L1 q).toInt64)))))]) (fun _ => rfl) (fun _ => rfl) (fun u H locs hw_1 hP hD hS => ?_)
      have hP : va_P (dC, dI) vwCl [(x0, .inr (1, [.ref r0, .ref r1, .ref r2, .ref r3, .int (nI rn)])), (r0, .inr (0, [.ref a0, .int (nI L0.length)])), (a0, .inl (cA, (100, .inl f0))), (r1, .inr (0, [.ref a1, .int (nI L1.length)])), (a1, .inl (cA, (100, .inl f1))), (r2, .inr (0, [.ref a2, .int n2])), (a2, .inl (cA, (100, .inl f2))), (r3, .inr (0, [.ref a3, .int n3])), (a3, .inl (cA, (100, .inl f3))), (y0, .inr (2, [.int tv, .int (nI rn), .ref q1, .ref q2, .int mn, .ref q3, .ref q4, .int ct, .int il, .ref q5])), (q1, .inl (cA, (2, .inl sf))), (q2, .inl (cA, (60, .inl lf))), (q3, .inl (cA, (320, .inl rf))), (q4, .inl (cA, (320, .inl nf))), (q5, .inl (cA, (6, .inl gf))), (o, .inl (cL, (1, .inr (.inl (vp_updL fo 0 (haL L1 q).toInt64)))))] H := hP
      have hD : va_D A [(x0, .inr (1, [.ref r0, .ref r1, .ref r2, .ref r3, .int (nI rn)])), (r0, .inr (0, [.ref a0, .int (nI L0.length)])), (a0, .inl (cA, (100, .inl f0))), (r1, .inr (0, [.ref a1, .int (nI L1.length)])), (a1, .inl (cA, (100, .inl f1))), (r2, .inr (0, [.ref a2, .int n2])), (a2, .inl (cA, (100, .inl f2))), (r3, .inr (0, [.ref a3, .int n3])), (a3, .inl (cA, (100, .inl f3))), (y0, .inr (2, [.int tv, .int (nI rn), .ref q1, .ref q2, .int mn, .ref q3, .ref q4, .int ct, .int il, .ref q5])), (q1, .inl (cA, (2, .inl sf))), (q2, .inl (cA, (60, .inl lf))), (q3, .inl (cA, (320, .inl rf))), (q4, .inl (cA, (320, .inl nf))), (q5, .inl (cA, (6, .inl gf))), (o, .inl (cL, (1, .inr (.inl (vp_updL fo 0 (haL L1 q).toInt64)))))] := hD
      refine lv_istore (lv' := [(5, .int 0), (4, .int (nI i)), (3, .ref o), (2, .ref y0), (1, .ref x0), (0, .ref b)]) hx hb dL_law_985 hl (by decide) rfl (fun ls hl => ?_)
      refine lv_aload_n hx hb dL_law_987 rfl (lv_at hl 3 rfl) ?_
      refine lv_aload_n hx hb dL_law_988 rfl (lv_at hl 5 rfl) ?_
      refine lv_iload hx hb dL_law_989 (lv_at hl 1 rfl) ?_
      refine lv_iconst (v := 1) hx hb dL_law_991 (by decide) ?_
      refine lv_iadd hx hb dL_law_992 ?_
      rw [show (nI i) + 1 = nI (i + 1) from nI_add i 1]
      refine va_sld hx hb hX hbl hbA hS (vp_in_nI (by omega) (by omega)) dL_law_993 ?_
      rw [show (nI (i + 1)).toNatClampNeg = i + 1 from nI_clamp (by omega)]
      rw [h1]
      refine lv_aload_n hx hb dL_law_994 rfl (lv_at hl 5 rfl) ?_
      refine lv_iload hx hb dL_law_995 (lv_at hl 1 rfl) ?_
      refine lv_iconst (v := 2) hx hb dL_law_997 (by decide) ?_
      refine lv_iadd hx hb dL_law_998 ?_
      rw [show (nI i) + 2 = nI (i + 2) from nI_add i 2]
      refine va_sld hx hb hX hbl hbA hS (vp_in_nI (by omega) (by omega)) dL_law_999 ?_
      rw [show (nI (i + 2)).toNatClampNeg = i + 2 from nI_clamp (by omega)]
      rw [h2]
      refine g_MVi (As := [.int (nI 1), .int (nI q)]) (rest := []) ⟨hx, hb, hml, hown, hts⟩ (mt_X2_handle l dC dI cA H.size y0 q1 q2 q3 q4 q5 rn tv sf lf mn rf nf ct il gf (V2 L0 L1) 1 q hW hrn hr6 hok (by omega) hq) (cwV 2 hts gL_law_X2_handle rfl rfl rfl hdX2_handle ⟨Nat.le_of_ble_eq_true rfl, Nat.le_of_ble_eq_true rfl⟩) hP hK hD hS hA [9, 10, 11, 12, 13, 14] (by decide) rfl (va_recv hK hP (ci := 2) (q0 := 9) rfl rfl) rfl hl.1 rfl (Nat.le_of_ble_eq_true rfl) dL_law_1000 hc0 hs0 (fun u9 => [(x0, .inr (1, [.ref r0, .ref r1, .ref r2, .ref r3, .int (nI rn)])), (r0, .inr (0, [.ref a0, .int (nI L0.length)])), (a0, .inl (cA, (100, .inl f0))), (r1, .inr (0, [.ref a1, .int (nI L1.length)])), (a1, .inl (cA, (100, .inl f1))), (r2, .inr (0, [.ref a2, .int n2])), (a2, .inl (cA, (100, .inl f2))), (r3, .inr (0, [.ref a3, .int n3])), (a3, .inl (cA, (100, .inl f3))), (y0, .inr (2, [.int 0, .int (nI rn), .ref q1, .ref q2, .int (nI (((V2 L0 L1) 1).length)), .ref q3, .ref q4, .int ct, .int il, .ref q5])), (q1, .inl (cA, (2, .inl sf))), (q2, .inl (cA, (60, .inl lf))), (q3, .inl (cA, (320, .inl u9))), (q4, .inl (cA, (320, .inl nf))), (q5, .inl (cA, (6, .inl gf))), (o, .inl (cL, (1, .inr (.inl (vp_updL fo 0 (haL L1 q).toInt64)))))]) (fun _ => rfl) (fun _ => rfl) (fun u H locs hw_3 hP hD hS => ?_)
      obtain ⟨r1_2, rfl⟩ : ∃ z, z = u := ⟨_, rfl⟩
      have hw_3 : True := hw_3
      have hP : va_P (dC, dI) vwCl [(x0, .inr (1, [.ref r0, .ref r1, .ref r2, .ref r3, .int (nI rn)])), (r0, .inr (0, [.ref a0, .int (nI L0.length)])), (a0, .inl (cA, (100, .inl f0))), (r1, .inr (0, [.ref a1, .int (nI L1.length)])), (a1, .inl (cA, (100, .inl f1))), (r2, .inr (0, [.ref a2, .int n2])), (a2, .inl (cA, (100, .inl f2))), (r3, .inr (0, [.ref a3, .int n3])), (a3, .inl (cA, (100, .inl f3))), (y0, .inr (2, [.int 0, .int (nI rn), .ref q1, .ref q2, .int (nI (((V2 L0 L1) 1).length)), .ref q3, .ref q4, .int ct, .int il, .ref q5])), (q1, .inl (cA, (2, .inl sf))), (q2, .inl (cA, (60, .inl lf))), (q3, .inl (cA, (320, .inl r1_2))), (q4, .inl (cA, (320, .inl nf))), (q5, .inl (cA, (6, .inl gf))), (o, .inl (cL, (1, .inr (.inl (vp_updL fo 0 (haL L1 q).toInt64)))))] H := hP
      have hD : va_D A [(x0, .inr (1, [.ref r0, .ref r1, .ref r2, .ref r3, .int (nI rn)])), (r0, .inr (0, [.ref a0, .int (nI L0.length)])), (a0, .inl (cA, (100, .inl f0))), (r1, .inr (0, [.ref a1, .int (nI L1.length)])), (a1, .inl (cA, (100, .inl f1))), (r2, .inr (0, [.ref a2, .int n2])), (a2, .inl (cA, (100, .inl f2))), (r3, .inr (0, [.ref a3, .int n3])), (a3, .inl (cA, (100, .inl f3))), (y0, .inr (2, [.int 0, .int (nI rn), .ref q1, .ref q2, .int (nI (((V2 L0 L1) 1).length)), .ref q3, .ref q4, .int ct, .int il, .ref q5])), (q1, .inl (cA, (2, .inl sf))), (q2, .inl (cA, (60, .inl lf))), (q3, .inl (cA, (320, .inl r1_2))), (q4, .inl (cA, (320, .inl nf))), (q5, .inl (cA, (6, .inl gf))), (o, .inl (cL, (1, .inr (.inl (vp_updL fo 0 (haL L1 q).toInt64)))))] := hD
      refine lv_istore (lv' := [(6, .int (haL ((V2 L0 L1) 1) q)), (5, .int 0), (4, .int (nI i)), (3, .ref o), (2, .ref y0), (1, .ref x0), (0, .ref b)]) hx hb dL_law_1003 hl (by decide) rfl (fun ls hl => ?_)
      refine lv_aload_n hx hb dL_law_1005 rfl (lv_at hl 4 rfl) ?_
      refine g_RVi (As := []) (rest := []) ⟨hx, hb, hml, hown, hts⟩ (mt_X2_thrown l dC dI cA H.size y0 q1 q2 q3 q4 q5 rn 0 sf lf (nI (((V2 L0 L1) 1).length)) r1_2 nf ct il gf) (cwV 0 hts gL_law_X2_thrown rfl rfl rfl hdX2_thrown ⟨Nat.le_of_ble_eq_true rfl, Nat.le_of_ble_eq_true rfl⟩) hP hK hD [9, 10, 11, 12, 13, 14] (by decide) rfl (va_recv hK hP (ci := 2) (q0 := 9) rfl rfl) rfl hl.1 rfl (Nat.le_of_ble_eq_true rfl) dL_law_1006 hc0 hs0 ?_
      refine lv_iload hx hb dL_law_1009 (lv_at hl 1 rfl) ?_
      refine lv_icmp_eq (tgt := 1016) hx hb dL_law_1011 (by decide) (fun c1011 => ?_) (fun c1011 => ?_)
      · refine lv_iload hx hb dL_law_1016 (lv_at hl 1 rfl) ?_
        refine lv_if_ne (tgt := 1033) hx hb dL_law_1018 (by decide) (fun c1018 => ?_) (fun c1018 => ?_)
        · exact absurd (by decide) c1018
        · have c1018 : 0 = 0 := g_neF 0 0 (by omega) (by omega) c1018
          refine lv_aload_n hx hb dL_law_1021 rfl (lv_at hl 3 rfl) ?_
          refine lv_iconst (v := 0) hx hb dL_law_1022 (by decide) ?_
          refine va_lald hx hb hKl hP 15 1 rfl rfl (vp_in_nI (n := 0) (by omega) (by decide)) dL_law_1023 ?_
          rw [show (0 : Int32).toNatClampNeg = 0 from by decide, pk_uLs]
          refine lv_iload hx hb dL_law_1024 (lv_at hl 0 rfl) ?_
          refine lv_i2l (v := (haL ((V2 L0 L1) 1) q).toInt64) hx hb dL_law_1026 rfl ?_
          refine W.lcmp hx hb dL_law_1027 ?_
          rw [show lg_cmp ((haL L1 q).toInt64) ((haL ((V2 L0 L1) 1) q).toInt64) = 0 from (lg_cmp_eq _ _).mpr rfl]
          refine lv_if_eq (tgt := 1033) hx hb dL_law_1028 (by decide) (fun c1028 => ?_) (fun c1028 => ?_)
          · have c1028 : 0 = 0 := g_eqT 0 0 (by omega) (by omega) c1028
            refine lv_goto (tgt := 1241) hx hb dL_law_1033 (by decide) ?_
            exact kk rn L0 L1 _ _ _ _ _ ⟨f0, f1, n2, f2, n3, f3, 0, sf, lf, nI (((V2 L0 L1) 1).length), r1_2, nf, ct, il, gf, vp_updL fo 0 (haL L1 q).toInt64, hP, hD, hS, hR0, hR1, hl0, hl1, hrn, hr6, hk0, hk1, hW⟩ (by omega) (by omega) (lv_sub hl [2, 3, 4, 5, 6] rfl)
          · exact absurd (by decide) c1028
      · exact absurd (by decide) c1011

set_option maxHeartbeats 4000000 in
set_option maxRecDepth 100000 in
theorem lw_op_14 {p : Program} {l : Launch} {e : Env} {s : State} {m : MethodId} {below : List Frame} {meth : Method} {c : Code} {Q : State → Prop} {b L : Nat} {xs : Nat → Int32} {dC : Nat → ClassId} {dI : Nat → Nat → Nat} {cA cL : ClassId} {A : Nat → Prop} (E : lwE p l s m c b L xs dC dI cA cL A) {x0 r0 r1 r2 r3 a0 a1 a2 a3 y0 q1 q2 q3 q4 q5 o : Nat} {i : Nat} (hi : i + 4 ≤ L) {cells slots : Nat} (hC : cells + 1 ≤ 1053) (hS9 : slots + 6 ≤ 9402) {rn : Nat} {L0 L1 : List Int32} {H : Heap} {locs : List Loc} (hI : lwI dC dI cA cL A s.heap x0 r0 r1 r2 r3 a0 a1 a2 a3 y0 q1 q2 q3 q4 q5 o rn L0 L1 H locs) {ls : Array Slot} (hl : lv_has ls 9 [(4, .int (nI i)), (3, .ref o), (2, .ref y0), (1, .ref x0), (0, .ref b)])
    (kk : ∀ (rn : Nat) (L0 L1 : List Int32) (H : Heap) (locs : List Loc) (cells1 slots1 : Nat) (ls : Array Slot), lwI dC dI cA cL A s.heap x0 r0 r1 r2 r3 a0 a1 a2 a3 y0 q1 q2 q3 q4 q5 o rn L0 L1 H locs → cells1 ≤ cells + 1 → slots1 ≤ slots + 6 → lv_has ls 9 [(4, .int (nI i)), (3, .ref o), (2, .ref y0), (1, .ref x0), (0, .ref b)] → W p l e room_1 s m #[Value.ref b] below meth c H locs cells1 slots1 Q (F0 m 1241 ls [])) :
    W p l e room_1 s m #[Value.ref b] below meth c H locs cells slots Q (F0 m 1036 ls []) := by
  obtain ⟨hx, hb, hml, hown, hts, hX, hbl, hbA, hA, htr, hKl, hZ, hL2⟩ := E
  obtain ⟨f0, f1, n2, f2, n3, f3, tv, sf, lf, mn, rf, nf, ct, il, gf, fo, hP, hD, hS, hR0, hR1, hl0, hl1, hrn, hr6, hk0, hk1, hW⟩ := hI
  have hK : va_K (dC, dI) vwCl [(cA, .int)] s := hKl.sub [0] rfl
  have hok := V2_ok hk0 hk1
  have hc0 : cells ≤ room_1.cells := (show cells ≤ 1053 from by omega)
  have hs0 : slots ≤ room_1.slots := (show slots ≤ 9402 from by omega)
  have hc1 : cells + 1 ≤ room_1.cells := hC
  have hs1 : slots + 6 ≤ room_1.slots := hS9
  rcases wd_ix (xs (i + 1)) with hbad | h1 | h1
  · refine lv_aload_n hx hb dL_law_1036 rfl (lv_at hl 3 rfl) ?_
    refine lv_aload_n hx hb dL_law_1037 rfl (lv_at hl 4 rfl) ?_
    refine lv_iload hx hb dL_law_1038 (lv_at hl 0 rfl) ?_
    refine lv_iconst (v := 1) hx hb dL_law_1040 (by decide) ?_
    refine lv_iadd hx hb dL_law_1041 ?_
    rw [show (nI i) + 1 = nI (i + 1) from nI_add i 1]
    refine va_sld hx hb hX hbl hbA hS (vp_in_nI (by omega) (by omega)) dL_law_1042 ?_
    rw [show (nI (i + 1)).toNatClampNeg = i + 1 from nI_clamp (by omega)]
    refine lv_aload_n hx hb dL_law_1043 rfl (lv_at hl 4 rfl) ?_
    refine lv_iload hx hb dL_law_1044 (lv_at hl 0 rfl) ?_
    refine lv_iconst (v := 2) hx hb dL_law_1046 (by decide) ?_
    refine lv_iadd hx hb dL_law_1047 ?_
    rw [show (nI i) + 2 = nI (i + 2) from nI_add i 2]
    refine va_sld hx hb hX hbl hbA hS (vp_in_nI (by omega) (by omega)) dL_law_1048 ?_
    rw [show (nI (i + 2)).toNatClampNeg = i + 2 from nI_clamp (by omega)]
    refine lv_aload_n hx hb dL_law_1049 rfl (lv_at hl 1 rfl) ?_
    refine g_LS (As := [.ref x0, .int (xs (i + 1)), .int (xs (i + 2)), .ref o]) (rest := []) ⟨hx, hb, hml, hown, hts⟩ (mt_L_plain_1 l htr dC dI cA cL H.size x0 (xs (i + 1)) (xs (i + 2)) r0 r1 r2 r3 (nI rn) o fo hbad) (vx_cwSW 4 hts gL_law_L_plain rfl rfl rfl hdL_plain ⟨Nat.le_of_ble_eq_true rfl, Nat.le_of_ble_eq_true rfl⟩) hP hKl hD hS hA hZ [0, 15] (by decide) rfl rfl hl.1 rfl (Nat.le_of_ble_eq_true rfl) dL_law_1050 hc1 hs1 (fun u9 => [(x0, .inr (1, [.ref r0, .ref r1, .ref r2, .ref r3, .int (nI rn)])), (r0, .inr (0, [.ref a0, .int (nI L0.length)])), (a0, .inl (cA, (100, .inl f0))), (r1, .inr (0, [.ref a1, .int (nI L1.length)])), (a1, .inl (cA, (100, .inl f1))), (r2, .inr (0, [.ref a2, .int n2])), (a2, .inl (cA, (100, .inl f2))), (r3, .inr (0, [.ref a3, .int n3])), (a3, .inl (cA, (100, .inl f3))), (y0, .inr (2, [.int tv, .int (nI rn), .ref q1, .ref q2, .int mn, .ref q3, .ref q4, .int ct, .int il, .ref q5])), (q1, .inl (cA, (2, .inl sf))), (q2, .inl (cA, (60, .inl lf))), (q3, .inl (cA, (320, .inl rf))), (q4, .inl (cA, (320, .inl nf))), (q5, .inl (cA, (6, .inl gf))), (o, .inl (cL, (1, .inr (.inl fo))))]) (fun _ => rfl) (fun _ => rfl) (fun u H locs hw_1 hP hD hS => ?_)
    have hP : va_P (dC, dI) vwCl [(x0, .inr (1, [.ref r0, .ref r1, .ref r2, .ref r3, .int (nI rn)])), (r0, .inr (0, [.ref a0, .int (nI L0.length)])), (a0, .inl (cA, (100, .inl f0))), (r1, .inr (0, [.ref a1, .int (nI L1.length)])), (a1, .inl (cA, (100, .inl f1))), (r2, .inr (0, [.ref a2, .int n2])), (a2, .inl (cA, (100, .inl f2))), (r3, .inr (0, [.ref a3, .int n3])), (a3, .inl (cA, (100, .inl f3))), (y0, .inr (2, [.int tv, .int (nI rn), .ref q1, .ref q2, .int mn, .ref q3, .ref q4, .int ct, .int il, .ref q5])), (q1, .inl (cA, (2, .inl sf))), (q2, .inl (cA, (60, .inl lf))), (q3, .inl (cA, (320, .inl rf))), (q4, .inl (cA, (320, .inl nf))), (q5, .inl (cA, (6, .inl gf))), (o, .inl (cL, (1, .inr (.inl fo))))] H := hP
    have hD : va_D A [(x0, .inr (1, [.ref r0, .ref r1, .ref r2, .ref r3, .int (nI rn)])), (r0, .inr (0, [.ref a0, .int (nI L0.length)])), (a0, .inl (cA, (100, .inl f0))), (r1, .inr (0, [.ref a1, .int (nI L1.length)])), (a1, .inl (cA, (100, .inl f1))), (r2, .inr (0, [.ref a2, .int n2])), (a2, .inl (cA, (100, .inl f2))), (r3, .inr (0, [.ref a3, .int n3])), (a3, .inl (cA, (100, .inl f3))), (y0, .inr (2, [.int tv, .int (nI rn), .ref q1, .ref q2, .int mn, .ref q3, .ref q4, .int ct, .int il, .ref q5])), (q1, .inl (cA, (2, .inl sf))), (q2, .inl (cA, (60, .inl lf))), (q3, .inl (cA, (320, .inl rf))), (q4, .inl (cA, (320, .inl nf))), (q5, .inl (cA, (6, .inl gf))), (o, .inl (cL, (1, .inr (.inl fo))))] := hD
    refine lv_istore (lv' := [(5, .int 1), (4, .int (nI i)), (3, .ref o), (2, .ref y0), (1, .ref x0), (0, .ref b)]) hx hb dL_law_1053 hl (by decide) rfl (fun ls hl => ?_)
    refine lv_aload_n hx hb dL_law_1055 rfl (lv_at hl 3 rfl) ?_
    refine lv_aload_n hx hb dL_law_1056 rfl (lv_at hl 5 rfl) ?_
    refine lv_iload hx hb dL_law_1057 (lv_at hl 1 rfl) ?_
    refine lv_iconst (v := 1) hx hb dL_law_1059 (by decide) ?_
    refine lv_iadd hx hb dL_law_1060 ?_
    rw [show (nI i) + 1 = nI (i + 1) from nI_add i 1]
    refine va_sld hx hb hX hbl hbA hS (vp_in_nI (by omega) (by omega)) dL_law_1061 ?_
    rw [show (nI (i + 1)).toNatClampNeg = i + 1 from nI_clamp (by omega)]
    refine lv_aload_n hx hb dL_law_1062 rfl (lv_at hl 5 rfl) ?_
    refine lv_iload hx hb dL_law_1063 (lv_at hl 1 rfl) ?_
    refine lv_iconst (v := 2) hx hb dL_law_1065 (by decide) ?_
    refine lv_iadd hx hb dL_law_1066 ?_
    rw [show (nI i) + 2 = nI (i + 2) from nI_add i 2]
    refine va_sld hx hb hX hbl hbA hS (vp_in_nI (by omega) (by omega)) dL_law_1067 ?_
    rw [show (nI (i + 2)).toNatClampNeg = i + 2 from nI_clamp (by omega)]
    refine g_MVi (As := [.int (xs (i + 1)), .int (xs (i + 2))]) (rest := []) ⟨hx, hb, hml, hown, hts⟩ (mt_X2_plain_1 l dC dI cA H.size y0 q1 q2 q3 q4 q5 rn tv sf lf mn rf nf ct il gf (xs (i + 1)) (xs (i + 2)) hbad) (cwV 2 hts gL_law_X2_plain rfl rfl rfl hdX2_plain ⟨Nat.le_of_ble_eq_true rfl, Nat.le_of_ble_eq_true rfl⟩) hP hK hD hS hA [9, 10, 11, 12, 13, 14] (by decide) rfl (va_recv hK hP (ci := 2) (q0 := 9) rfl rfl) rfl hl.1 rfl (Nat.le_of_ble_eq_true rfl) dL_law_1068 hc1 hs1 (fun u9 => [(x0, .inr (1, [.ref r0, .ref r1, .ref r2, .ref r3, .int (nI rn)])), (r0, .inr (0, [.ref a0, .int (nI L0.length)])), (a0, .inl (cA, (100, .inl f0))), (r1, .inr (0, [.ref a1, .int (nI L1.length)])), (a1, .inl (cA, (100, .inl f1))), (r2, .inr (0, [.ref a2, .int n2])), (a2, .inl (cA, (100, .inl f2))), (r3, .inr (0, [.ref a3, .int n3])), (a3, .inl (cA, (100, .inl f3))), (y0, .inr (2, [.int 1, .int (nI rn), .ref q1, .ref q2, .int mn, .ref q3, .ref q4, .int ct, .int il, .ref q5])), (q1, .inl (cA, (2, .inl sf))), (q2, .inl (cA, (60, .inl lf))), (q3, .inl (cA, (320, .inl rf))), (q4, .inl (cA, (320, .inl nf))), (q5, .inl (cA, (6, .inl gf))), (o, .inl (cL, (1, .inr (.inl fo))))]) (fun _ => rfl) (fun _ => rfl) (fun u H locs hw_2 hP hD hS => ?_)
    have hw_2 : True := hw_2
    have hP : va_P (dC, dI) vwCl [(x0, .inr (1, [.ref r0, .ref r1, .ref r2, .ref r3, .int (nI rn)])), (r0, .inr (0, [.ref a0, .int (nI L0.length)])), (a0, .inl (cA, (100, .inl f0))), (r1, .inr (0, [.ref a1, .int (nI L1.length)])), (a1, .inl (cA, (100, .inl f1))), (r2, .inr (0, [.ref a2, .int n2])), (a2, .inl (cA, (100, .inl f2))), (r3, .inr (0, [.ref a3, .int n3])), (a3, .inl (cA, (100, .inl f3))), (y0, .inr (2, [.int 1, .int (nI rn), .ref q1, .ref q2, .int mn, .ref q3, .ref q4, .int ct, .int il, .ref q5])), (q1, .inl (cA, (2, .inl sf))), (q2, .inl (cA, (60, .inl lf))), (q3, .inl (cA, (320, .inl rf))), (q4, .inl (cA, (320, .inl nf))), (q5, .inl (cA, (6, .inl gf))), (o, .inl (cL, (1, .inr (.inl fo))))] H := hP
    have hD : va_D A [(x0, .inr (1, [.ref r0, .ref r1, .ref r2, .ref r3, .int (nI rn)])), (r0, .inr (0, [.ref a0, .int (nI L0.length)])), (a0, .inl (cA, (100, .inl f0))), (r1, .inr (0, [.ref a1, .int (nI L1.length)])), (a1, .inl (cA, (100, .inl f1))), (r2, .inr (0, [.ref a2, .int n2])), (a2, .inl (cA, (100, .inl f2))), (r3, .inr (0, [.ref a3, .int n3])), (a3, .inl (cA, (100, .inl f3))), (y0, .inr (2, [.int 1, .int (nI rn), .ref q1, .ref q2, .int mn, .ref q3, .ref q4, .int ct, .int il, .ref q5])), (q1, .inl (cA, (2, .inl sf))), (q2, .inl (cA, (60, .inl lf))), (q3, .inl (cA, (320, .inl rf))), (q4, .inl (cA, (320, .inl nf))), (q5, .inl (cA, (6, .inl gf))), (o, .inl (cL, (1, .inr (.inl fo))))] := hD
    refine lv_istore (lv' := [(6, .int 0), (5, .int 1), (4, .int (nI i)), (3, .ref o), (2, .ref y0), (1, .ref x0), (0, .ref b)]) hx hb dL_law_1071 hl (by decide) rfl (fun ls hl => ?_)
    refine lv_aload_n hx hb dL_law_1073 rfl (lv_at hl 4 rfl) ?_
    refine g_RVi (As := []) (rest := []) ⟨hx, hb, hml, hown, hts⟩ (mt_X2_thrown l dC dI cA H.size y0 q1 q2 q3 q4 q5 rn 1 sf lf mn rf nf ct il gf) (cwV 0 hts gL_law_X2_thrown rfl rfl rfl hdX2_thrown ⟨Nat.le_of_ble_eq_true rfl, Nat.le_of_ble_eq_true rfl⟩) hP hK hD [9, 10, 11, 12, 13, 14] (by decide) rfl (va_recv hK hP (ci := 2) (q0 := 9) rfl rfl) rfl hl.1 rfl (Nat.le_of_ble_eq_true rfl) dL_law_1074 hc1 hs1 ?_
    refine lv_iload hx hb dL_law_1077 (lv_at hl 1 rfl) ?_
    refine lv_icmp_eq (tgt := 1084) hx hb dL_law_1079 (by decide) (fun c1079 => ?_) (fun c1079 => ?_)
    · refine lv_iload hx hb dL_law_1084 (lv_at hl 1 rfl) ?_
      refine lv_if_ne (tgt := 1101) hx hb dL_law_1086 (by decide) (fun c1086 => ?_) (fun c1086 => ?_)
      · have c1086 : ¬ 1 = 0 := g_neT 1 0 (by omega) (by omega) c1086
        refine lv_goto (tgt := 1241) hx hb dL_law_1101 (by decide) ?_
        exact kk rn L0 L1 _ _ _ _ _ ⟨f0, f1, n2, f2, n3, f3, 1, sf, lf, mn, rf, nf, ct, il, gf, fo, hP, hD, hS, hR0, hR1, hl0, hl1, hrn, hr6, hk0, hk1, hW⟩ (by omega) (by omega) (lv_sub hl [2, 3, 4, 5, 6] rfl)
      · exact absurd c1086 (by decide)
    · exact absurd (by decide) c1079
  · rcases pk_ix (xs (i + 2)) (n := 4) (by decide) with hbad | hbad | ⟨q, hq, h2⟩
    · refine lv_aload_n hx hb dL_law_1036 rfl (lv_at hl 3 rfl) ?_
      refine lv_aload_n hx hb dL_law_1037 rfl (lv_at hl 4 rfl) ?_
      refine lv_iload hx hb dL_law_1038 (lv_at hl 0 rfl) ?_
      refine lv_iconst (v := 1) hx hb dL_law_1040 (by decide) ?_
      refine lv_iadd hx hb dL_law_1041 ?_
      rw [show (nI i) + 1 = nI (i + 1) from nI_add i 1]
      refine va_sld hx hb hX hbl hbA hS (vp_in_nI (by omega) (by omega)) dL_law_1042 ?_
      rw [show (nI (i + 1)).toNatClampNeg = i + 1 from nI_clamp (by omega)]
      rw [h1]
      refine lv_aload_n hx hb dL_law_1043 rfl (lv_at hl 4 rfl) ?_
      refine lv_iload hx hb dL_law_1044 (lv_at hl 0 rfl) ?_
      refine lv_iconst (v := 2) hx hb dL_law_1046 (by decide) ?_
      refine lv_iadd hx hb dL_law_1047 ?_
      rw [show (nI i) + 2 = nI (i + 2) from nI_add i 2]
      refine va_sld hx hb hX hbl hbA hS (vp_in_nI (by omega) (by omega)) dL_law_1048 ?_
      rw [show (nI (i + 2)).toNatClampNeg = i + 2 from nI_clamp (by omega)]
      refine lv_aload_n hx hb dL_law_1049 rfl (lv_at hl 1 rfl) ?_
      refine g_LS (As := [.ref x0, .int (nI 0), .int (xs (i + 2)), .ref o]) (rest := []) ⟨hx, hb, hml, hown, hts⟩ (mt_L_plain_1b_0 l htr dC dI cA cL H.size x0 r0 r1 r2 r3 rn (xs (i + 2)) o fo (Or.inl hbad)) (vx_cwSW 4 hts gL_law_L_plain rfl rfl rfl hdL_plain ⟨Nat.le_of_ble_eq_true rfl, Nat.le_of_ble_eq_true rfl⟩) hP hKl hD hS hA hZ [0, 15] (by decide) rfl rfl hl.1 rfl (Nat.le_of_ble_eq_true rfl) dL_law_1050 hc1 hs1 (fun u9 => [(x0, .inr (1, [.ref r0, .ref r1, .ref r2, .ref r3, .int (nI rn)])), (r0, .inr (0, [.ref a0, .int (nI L0.length)])), (a0, .inl (cA, (100, .inl f0))), (r1, .inr (0, [.ref a1, .int (nI L1.length)])), (a1, .inl (cA, (100, .inl f1))), (r2, .inr (0, [.ref a2, .int n2])), (a2, .inl (cA, (100, .inl f2))), (r3, .inr (0, [.ref a3, .int n3])), (a3, .inl (cA, (100, .inl f3))), (y0, .inr (2, [.int tv, .int (nI rn), .ref q1, .ref q2, .int mn, .ref q3, .ref q4, .int ct, .int il, .ref q5])), (q1, .inl (cA, (2, .inl sf))), (q2, .inl (cA, (60, .inl lf))), (q3, .inl (cA, (320, .inl rf))), (q4, .inl (cA, (320, .inl nf))), (q5, .inl (cA, (6, .inl gf))), (o, .inl (cL, (1, .inr (.inl fo))))]) (fun _ => rfl) (fun _ => rfl) (fun u H locs hw_1 hP hD hS => ?_)
      have hP : va_P (dC, dI) vwCl [(x0, .inr (1, [.ref r0, .ref r1, .ref r2, .ref r3, .int (nI rn)])), (r0, .inr (0, [.ref a0, .int (nI L0.length)])), (a0, .inl (cA, (100, .inl f0))), (r1, .inr (0, [.ref a1, .int (nI L1.length)])), (a1, .inl (cA, (100, .inl f1))), (r2, .inr (0, [.ref a2, .int n2])), (a2, .inl (cA, (100, .inl f2))), (r3, .inr (0, [.ref a3, .int n3])), (a3, .inl (cA, (100, .inl f3))), (y0, .inr (2, [.int tv, .int (nI rn), .ref q1, .ref q2, .int mn, .ref q3, .ref q4, .int ct, .int il, .ref q5])), (q1, .inl (cA, (2, .inl sf))), (q2, .inl (cA, (60, .inl lf))), (q3, .inl (cA, (320, .inl rf))), (q4, .inl (cA, (320, .inl nf))), (q5, .inl (cA, (6, .inl gf))), (o, .inl (cL, (1, .inr (.inl fo))))] H := hP
      have hD : va_D A [(x0, .inr (1, [.ref r0, .ref r1, .ref r2, .ref r3, .int (nI rn)])), (r0, .inr (0, [.ref a0, .int (nI L0.length)])), (a0, .inl (cA, (100, .inl f0))), (r1, .inr (0, [.ref a1, .int (nI L1.length)])), (a1, .inl (cA, (100, .inl f1))), (r2, .inr (0, [.ref a2, .int n2])), (a2, .inl (cA, (100, .inl f2))), (r3, .inr (0, [.ref a3, .int n3])), (a3, .inl (cA, (100, .inl f3))), (y0, .inr (2, [.int tv, .int (nI rn), .ref q1, .ref q2, .int mn, .ref q3, .ref q4, .int ct, .int il, .ref q5])), (q1, .inl (cA, (2, .inl sf))), (q2, .inl (cA, (60, .inl lf))), (q3, .inl (cA, (320, .inl rf))), (q4, .inl (cA, (320, .inl nf))), (q5, .inl (cA, (6, .inl gf))), (o, .inl (cL, (1, .inr (.inl fo))))] := hD
      refine lv_istore (lv' := [(5, .int 1), (4, .int (nI i)), (3, .ref o), (2, .ref y0), (1, .ref x0), (0, .ref b)]) hx hb dL_law_1053 hl (by decide) rfl (fun ls hl => ?_)
      refine lv_aload_n hx hb dL_law_1055 rfl (lv_at hl 3 rfl) ?_
      refine lv_aload_n hx hb dL_law_1056 rfl (lv_at hl 5 rfl) ?_
      refine lv_iload hx hb dL_law_1057 (lv_at hl 1 rfl) ?_
      refine lv_iconst (v := 1) hx hb dL_law_1059 (by decide) ?_
      refine lv_iadd hx hb dL_law_1060 ?_
      rw [show (nI i) + 1 = nI (i + 1) from nI_add i 1]
      refine va_sld hx hb hX hbl hbA hS (vp_in_nI (by omega) (by omega)) dL_law_1061 ?_
      rw [show (nI (i + 1)).toNatClampNeg = i + 1 from nI_clamp (by omega)]
      rw [h1]
      refine lv_aload_n hx hb dL_law_1062 rfl (lv_at hl 5 rfl) ?_
      refine lv_iload hx hb dL_law_1063 (lv_at hl 1 rfl) ?_
      refine lv_iconst (v := 2) hx hb dL_law_1065 (by decide) ?_
      refine lv_iadd hx hb dL_law_1066 ?_
      rw [show (nI i) + 2 = nI (i + 2) from nI_add i 2]
      refine va_sld hx hb hX hbl hbA hS (vp_in_nI (by omega) (by omega)) dL_law_1067 ?_
      rw [show (nI (i + 2)).toNatClampNeg = i + 2 from nI_clamp (by omega)]
      refine g_MVi (As := [.int (nI 0), .int (xs (i + 2))]) (rest := []) ⟨hx, hb, hml, hown, hts⟩ (mt_X2_plain_1b l dC dI cA H.size y0 q1 q2 q3 q4 q5 rn tv sf lf mn rf nf ct il gf 0 (xs (i + 2)) (by omega) (Or.inl hbad)) (cwV 2 hts gL_law_X2_plain rfl rfl rfl hdX2_plain ⟨Nat.le_of_ble_eq_true rfl, Nat.le_of_ble_eq_true rfl⟩) hP hK hD hS hA [9, 10, 11, 12, 13, 14] (by decide) rfl (va_recv hK hP (ci := 2) (q0 := 9) rfl rfl) rfl hl.1 rfl (Nat.le_of_ble_eq_true rfl) dL_law_1068 hc1 hs1 (fun u9 => [(x0, .inr (1, [.ref r0, .ref r1, .ref r2, .ref r3, .int (nI rn)])), (r0, .inr (0, [.ref a0, .int (nI L0.length)])), (a0, .inl (cA, (100, .inl f0))), (r1, .inr (0, [.ref a1, .int (nI L1.length)])), (a1, .inl (cA, (100, .inl f1))), (r2, .inr (0, [.ref a2, .int n2])), (a2, .inl (cA, (100, .inl f2))), (r3, .inr (0, [.ref a3, .int n3])), (a3, .inl (cA, (100, .inl f3))), (y0, .inr (2, [.int 1, .int (nI rn), .ref q1, .ref q2, .int mn, .ref q3, .ref q4, .int ct, .int il, .ref q5])), (q1, .inl (cA, (2, .inl sf))), (q2, .inl (cA, (60, .inl lf))), (q3, .inl (cA, (320, .inl rf))), (q4, .inl (cA, (320, .inl nf))), (q5, .inl (cA, (6, .inl gf))), (o, .inl (cL, (1, .inr (.inl fo))))]) (fun _ => rfl) (fun _ => rfl) (fun u H locs hw_2 hP hD hS => ?_)
      have hw_2 : True := hw_2
      have hP : va_P (dC, dI) vwCl [(x0, .inr (1, [.ref r0, .ref r1, .ref r2, .ref r3, .int (nI rn)])), (r0, .inr (0, [.ref a0, .int (nI L0.length)])), (a0, .inl (cA, (100, .inl f0))), (r1, .inr (0, [.ref a1, .int (nI L1.length)])), (a1, .inl (cA, (100, .inl f1))), (r2, .inr (0, [.ref a2, .int n2])), (a2, .inl (cA, (100, .inl f2))), (r3, .inr (0, [.ref a3, .int n3])), (a3, .inl (cA, (100, .inl f3))), (y0, .inr (2, [.int 1, .int (nI rn), .ref q1, .ref q2, .int mn, .ref q3, .ref q4, .int ct, .int il, .ref q5])), (q1, .inl (cA, (2, .inl sf))), (q2, .inl (cA, (60, .inl lf))), (q3, .inl (cA, (320, .inl rf))), (q4, .inl (cA, (320, .inl nf))), (q5, .inl (cA, (6, .inl gf))), (o, .inl (cL, (1, .inr (.inl fo))))] H := hP
      have hD : va_D A [(x0, .inr (1, [.ref r0, .ref r1, .ref r2, .ref r3, .int (nI rn)])), (r0, .inr (0, [.ref a0, .int (nI L0.length)])), (a0, .inl (cA, (100, .inl f0))), (r1, .inr (0, [.ref a1, .int (nI L1.length)])), (a1, .inl (cA, (100, .inl f1))), (r2, .inr (0, [.ref a2, .int n2])), (a2, .inl (cA, (100, .inl f2))), (r3, .inr (0, [.ref a3, .int n3])), (a3, .inl (cA, (100, .inl f3))), (y0, .inr (2, [.int 1, .int (nI rn), .ref q1, .ref q2, .int mn, .ref q3, .ref q4, .int ct, .int il, .ref q5])), (q1, .inl (cA, (2, .inl sf))), (q2, .inl (cA, (60, .inl lf))), (q3, .inl (cA, (320, .inl rf))), (q4, .inl (cA, (320, .inl nf))), (q5, .inl (cA, (6, .inl gf))), (o, .inl (cL, (1, .inr (.inl fo))))] := hD
      refine lv_istore (lv' := [(6, .int 0), (5, .int 1), (4, .int (nI i)), (3, .ref o), (2, .ref y0), (1, .ref x0), (0, .ref b)]) hx hb dL_law_1071 hl (by decide) rfl (fun ls hl => ?_)
      refine lv_aload_n hx hb dL_law_1073 rfl (lv_at hl 4 rfl) ?_
      refine g_RVi (As := []) (rest := []) ⟨hx, hb, hml, hown, hts⟩ (mt_X2_thrown l dC dI cA H.size y0 q1 q2 q3 q4 q5 rn 1 sf lf mn rf nf ct il gf) (cwV 0 hts gL_law_X2_thrown rfl rfl rfl hdX2_thrown ⟨Nat.le_of_ble_eq_true rfl, Nat.le_of_ble_eq_true rfl⟩) hP hK hD [9, 10, 11, 12, 13, 14] (by decide) rfl (va_recv hK hP (ci := 2) (q0 := 9) rfl rfl) rfl hl.1 rfl (Nat.le_of_ble_eq_true rfl) dL_law_1074 hc1 hs1 ?_
      refine lv_iload hx hb dL_law_1077 (lv_at hl 1 rfl) ?_
      refine lv_icmp_eq (tgt := 1084) hx hb dL_law_1079 (by decide) (fun c1079 => ?_) (fun c1079 => ?_)
      · refine lv_iload hx hb dL_law_1084 (lv_at hl 1 rfl) ?_
        refine lv_if_ne (tgt := 1101) hx hb dL_law_1086 (by decide) (fun c1086 => ?_) (fun c1086 => ?_)
        · have c1086 : ¬ 1 = 0 := g_neT 1 0 (by omega) (by omega) c1086
          refine lv_goto (tgt := 1241) hx hb dL_law_1101 (by decide) ?_
          exact kk rn L0 L1 _ _ _ _ _ ⟨f0, f1, n2, f2, n3, f3, 1, sf, lf, mn, rf, nf, ct, il, gf, fo, hP, hD, hS, hR0, hR1, hl0, hl1, hrn, hr6, hk0, hk1, hW⟩ (by omega) (by omega) (lv_sub hl [2, 3, 4, 5, 6] rfl)
        · exact absurd c1086 (by decide)
      · exact absurd (by decide) c1079
    · refine lv_aload_n hx hb dL_law_1036 rfl (lv_at hl 3 rfl) ?_
      refine lv_aload_n hx hb dL_law_1037 rfl (lv_at hl 4 rfl) ?_
      refine lv_iload hx hb dL_law_1038 (lv_at hl 0 rfl) ?_
      refine lv_iconst (v := 1) hx hb dL_law_1040 (by decide) ?_
      refine lv_iadd hx hb dL_law_1041 ?_
      rw [show (nI i) + 1 = nI (i + 1) from nI_add i 1]
      refine va_sld hx hb hX hbl hbA hS (vp_in_nI (by omega) (by omega)) dL_law_1042 ?_
      rw [show (nI (i + 1)).toNatClampNeg = i + 1 from nI_clamp (by omega)]
      rw [h1]
      refine lv_aload_n hx hb dL_law_1043 rfl (lv_at hl 4 rfl) ?_
      refine lv_iload hx hb dL_law_1044 (lv_at hl 0 rfl) ?_
      refine lv_iconst (v := 2) hx hb dL_law_1046 (by decide) ?_
      refine lv_iadd hx hb dL_law_1047 ?_
      rw [show (nI i) + 2 = nI (i + 2) from nI_add i 2]
      refine va_sld hx hb hX hbl hbA hS (vp_in_nI (by omega) (by omega)) dL_law_1048 ?_
      rw [show (nI (i + 2)).toNatClampNeg = i + 2 from nI_clamp (by omega)]
      refine lv_aload_n hx hb dL_law_1049 rfl (lv_at hl 1 rfl) ?_
      refine g_LS (As := [.ref x0, .int (nI 0), .int (xs (i + 2)), .ref o]) (rest := []) ⟨hx, hb, hml, hown, hts⟩ (mt_L_plain_1b_0 l htr dC dI cA cL H.size x0 r0 r1 r2 r3 rn (xs (i + 2)) o fo (Or.inr hbad)) (vx_cwSW 4 hts gL_law_L_plain rfl rfl rfl hdL_plain ⟨Nat.le_of_ble_eq_true rfl, Nat.le_of_ble_eq_true rfl⟩) hP hKl hD hS hA hZ [0, 15] (by decide) rfl rfl hl.1 rfl (Nat.le_of_ble_eq_true rfl) dL_law_1050 hc1 hs1 (fun u9 => [(x0, .inr (1, [.ref r0, .ref r1, .ref r2, .ref r3, .int (nI rn)])), (r0, .inr (0, [.ref a0, .int (nI L0.length)])), (a0, .inl (cA, (100, .inl f0))), (r1, .inr (0, [.ref a1, .int (nI L1.length)])), (a1, .inl (cA, (100, .inl f1))), (r2, .inr (0, [.ref a2, .int n2])), (a2, .inl (cA, (100, .inl f2))), (r3, .inr (0, [.ref a3, .int n3])), (a3, .inl (cA, (100, .inl f3))), (y0, .inr (2, [.int tv, .int (nI rn), .ref q1, .ref q2, .int mn, .ref q3, .ref q4, .int ct, .int il, .ref q5])), (q1, .inl (cA, (2, .inl sf))), (q2, .inl (cA, (60, .inl lf))), (q3, .inl (cA, (320, .inl rf))), (q4, .inl (cA, (320, .inl nf))), (q5, .inl (cA, (6, .inl gf))), (o, .inl (cL, (1, .inr (.inl fo))))]) (fun _ => rfl) (fun _ => rfl) (fun u H locs hw_1 hP hD hS => ?_)
      have hP : va_P (dC, dI) vwCl [(x0, .inr (1, [.ref r0, .ref r1, .ref r2, .ref r3, .int (nI rn)])), (r0, .inr (0, [.ref a0, .int (nI L0.length)])), (a0, .inl (cA, (100, .inl f0))), (r1, .inr (0, [.ref a1, .int (nI L1.length)])), (a1, .inl (cA, (100, .inl f1))), (r2, .inr (0, [.ref a2, .int n2])), (a2, .inl (cA, (100, .inl f2))), (r3, .inr (0, [.ref a3, .int n3])), (a3, .inl (cA, (100, .inl f3))), (y0, .inr (2, [.int tv, .int (nI rn), .ref q1, .ref q2, .int mn, .ref q3, .ref q4, .int ct, .int il, .ref q5])), (q1, .inl (cA, (2, .inl sf))), (q2, .inl (cA, (60, .inl lf))), (q3, .inl (cA, (320, .inl rf))), (q4, .inl (cA, (320, .inl nf))), (q5, .inl (cA, (6, .inl gf))), (o, .inl (cL, (1, .inr (.inl fo))))] H := hP
      have hD : va_D A [(x0, .inr (1, [.ref r0, .ref r1, .ref r2, .ref r3, .int (nI rn)])), (r0, .inr (0, [.ref a0, .int (nI L0.length)])), (a0, .inl (cA, (100, .inl f0))), (r1, .inr (0, [.ref a1, .int (nI L1.length)])), (a1, .inl (cA, (100, .inl f1))), (r2, .inr (0, [.ref a2, .int n2])), (a2, .inl (cA, (100, .inl f2))), (r3, .inr (0, [.ref a3, .int n3])), (a3, .inl (cA, (100, .inl f3))), (y0, .inr (2, [.int tv, .int (nI rn), .ref q1, .ref q2, .int mn, .ref q3, .ref q4, .int ct, .int il, .ref q5])), (q1, .inl (cA, (2, .inl sf))), (q2, .inl (cA, (60, .inl lf))), (q3, .inl (cA, (320, .inl rf))), (q4, .inl (cA, (320, .inl nf))), (q5, .inl (cA, (6, .inl gf))), (o, .inl (cL, (1, .inr (.inl fo))))] := hD
      refine lv_istore (lv' := [(5, .int 1), (4, .int (nI i)), (3, .ref o), (2, .ref y0), (1, .ref x0), (0, .ref b)]) hx hb dL_law_1053 hl (by decide) rfl (fun ls hl => ?_)
      refine lv_aload_n hx hb dL_law_1055 rfl (lv_at hl 3 rfl) ?_
      refine lv_aload_n hx hb dL_law_1056 rfl (lv_at hl 5 rfl) ?_
      refine lv_iload hx hb dL_law_1057 (lv_at hl 1 rfl) ?_
      refine lv_iconst (v := 1) hx hb dL_law_1059 (by decide) ?_
      refine lv_iadd hx hb dL_law_1060 ?_
      rw [show (nI i) + 1 = nI (i + 1) from nI_add i 1]
      refine va_sld hx hb hX hbl hbA hS (vp_in_nI (by omega) (by omega)) dL_law_1061 ?_
      rw [show (nI (i + 1)).toNatClampNeg = i + 1 from nI_clamp (by omega)]
      rw [h1]
      refine lv_aload_n hx hb dL_law_1062 rfl (lv_at hl 5 rfl) ?_
      refine lv_iload hx hb dL_law_1063 (lv_at hl 1 rfl) ?_
      refine lv_iconst (v := 2) hx hb dL_law_1065 (by decide) ?_
      refine lv_iadd hx hb dL_law_1066 ?_
      rw [show (nI i) + 2 = nI (i + 2) from nI_add i 2]
      refine va_sld hx hb hX hbl hbA hS (vp_in_nI (by omega) (by omega)) dL_law_1067 ?_
      rw [show (nI (i + 2)).toNatClampNeg = i + 2 from nI_clamp (by omega)]
      refine g_MVi (As := [.int (nI 0), .int (xs (i + 2))]) (rest := []) ⟨hx, hb, hml, hown, hts⟩ (mt_X2_plain_1b l dC dI cA H.size y0 q1 q2 q3 q4 q5 rn tv sf lf mn rf nf ct il gf 0 (xs (i + 2)) (by omega) (Or.inr hbad)) (cwV 2 hts gL_law_X2_plain rfl rfl rfl hdX2_plain ⟨Nat.le_of_ble_eq_true rfl, Nat.le_of_ble_eq_true rfl⟩) hP hK hD hS hA [9, 10, 11, 12, 13, 14] (by decide) rfl (va_recv hK hP (ci := 2) (q0 := 9) rfl rfl) rfl hl.1 rfl (Nat.le_of_ble_eq_true rfl) dL_law_1068 hc1 hs1 (fun u9 => [(x0, .inr (1, [.ref r0, .ref r1, .ref r2, .ref r3, .int (nI rn)])), (r0, .inr (0, [.ref a0, .int (nI L0.length)])), (a0, .inl (cA, (100, .inl f0))), (r1, .inr (0, [.ref a1, .int (nI L1.length)])), (a1, .inl (cA, (100, .inl f1))), (r2, .inr (0, [.ref a2, .int n2])), (a2, .inl (cA, (100, .inl f2))), (r3, .inr (0, [.ref a3, .int n3])), (a3, .inl (cA, (100, .inl f3))), (y0, .inr (2, [.int 1, .int (nI rn), .ref q1, .ref q2, .int mn, .ref q3, .ref q4, .int ct, .int il, .ref q5])), (q1, .inl (cA, (2, .inl sf))), (q2, .inl (cA, (60, .inl lf))), (q3, .inl (cA, (320, .inl rf))), (q4, .inl (cA, (320, .inl nf))), (q5, .inl (cA, (6, .inl gf))), (o, .inl (cL, (1, .inr (.inl fo))))]) (fun _ => rfl) (fun _ => rfl) (fun u H locs hw_2 hP hD hS => ?_)
      have hw_2 : True := hw_2
      have hP : va_P (dC, dI) vwCl [(x0, .inr (1, [.ref r0, .ref r1, .ref r2, .ref r3, .int (nI rn)])), (r0, .inr (0, [.ref a0, .int (nI L0.length)])), (a0, .inl (cA, (100, .inl f0))), (r1, .inr (0, [.ref a1, .int (nI L1.length)])), (a1, .inl (cA, (100, .inl f1))), (r2, .inr (0, [.ref a2, .int n2])), (a2, .inl (cA, (100, .inl f2))), (r3, .inr (0, [.ref a3, .int n3])), (a3, .inl (cA, (100, .inl f3))), (y0, .inr (2, [.int 1, .int (nI rn), .ref q1, .ref q2, .int mn, .ref q3, .ref q4, .int ct, .int il, .ref q5])), (q1, .inl (cA, (2, .inl sf))), (q2, .inl (cA, (60, .inl lf))), (q3, .inl (cA, (320, .inl rf))), (q4, .inl (cA, (320, .inl nf))), (q5, .inl (cA, (6, .inl gf))), (o, .inl (cL, (1, .inr (.inl fo))))] H := hP
      have hD : va_D A [(x0, .inr (1, [.ref r0, .ref r1, .ref r2, .ref r3, .int (nI rn)])), (r0, .inr (0, [.ref a0, .int (nI L0.length)])), (a0, .inl (cA, (100, .inl f0))), (r1, .inr (0, [.ref a1, .int (nI L1.length)])), (a1, .inl (cA, (100, .inl f1))), (r2, .inr (0, [.ref a2, .int n2])), (a2, .inl (cA, (100, .inl f2))), (r3, .inr (0, [.ref a3, .int n3])), (a3, .inl (cA, (100, .inl f3))), (y0, .inr (2, [.int 1, .int (nI rn), .ref q1, .ref q2, .int mn, .ref q3, .ref q4, .int ct, .int il, .ref q5])), (q1, .inl (cA, (2, .inl sf))), (q2, .inl (cA, (60, .inl lf))), (q3, .inl (cA, (320, .inl rf))), (q4, .inl (cA, (320, .inl nf))), (q5, .inl (cA, (6, .inl gf))), (o, .inl (cL, (1, .inr (.inl fo))))] := hD
      refine lv_istore (lv' := [(6, .int 0), (5, .int 1), (4, .int (nI i)), (3, .ref o), (2, .ref y0), (1, .ref x0), (0, .ref b)]) hx hb dL_law_1071 hl (by decide) rfl (fun ls hl => ?_)
      refine lv_aload_n hx hb dL_law_1073 rfl (lv_at hl 4 rfl) ?_
      refine g_RVi (As := []) (rest := []) ⟨hx, hb, hml, hown, hts⟩ (mt_X2_thrown l dC dI cA H.size y0 q1 q2 q3 q4 q5 rn 1 sf lf mn rf nf ct il gf) (cwV 0 hts gL_law_X2_thrown rfl rfl rfl hdX2_thrown ⟨Nat.le_of_ble_eq_true rfl, Nat.le_of_ble_eq_true rfl⟩) hP hK hD [9, 10, 11, 12, 13, 14] (by decide) rfl (va_recv hK hP (ci := 2) (q0 := 9) rfl rfl) rfl hl.1 rfl (Nat.le_of_ble_eq_true rfl) dL_law_1074 hc1 hs1 ?_
      refine lv_iload hx hb dL_law_1077 (lv_at hl 1 rfl) ?_
      refine lv_icmp_eq (tgt := 1084) hx hb dL_law_1079 (by decide) (fun c1079 => ?_) (fun c1079 => ?_)
      · refine lv_iload hx hb dL_law_1084 (lv_at hl 1 rfl) ?_
        refine lv_if_ne (tgt := 1101) hx hb dL_law_1086 (by decide) (fun c1086 => ?_) (fun c1086 => ?_)
        · have c1086 : ¬ 1 = 0 := g_neT 1 0 (by omega) (by omega) c1086
          refine lv_goto (tgt := 1241) hx hb dL_law_1101 (by decide) ?_
          exact kk rn L0 L1 _ _ _ _ _ ⟨f0, f1, n2, f2, n3, f3, 1, sf, lf, mn, rf, nf, ct, il, gf, fo, hP, hD, hS, hR0, hR1, hl0, hl1, hrn, hr6, hk0, hk1, hW⟩ (by omega) (by omega) (lv_sub hl [2, 3, 4, 5, 6] rfl)
        · exact absurd c1086 (by decide)
      · exact absurd (by decide) c1079
    · refine lv_aload_n hx hb dL_law_1036 rfl (lv_at hl 3 rfl) ?_
      refine lv_aload_n hx hb dL_law_1037 rfl (lv_at hl 4 rfl) ?_
      refine lv_iload hx hb dL_law_1038 (lv_at hl 0 rfl) ?_
      refine lv_iconst (v := 1) hx hb dL_law_1040 (by decide) ?_
      refine lv_iadd hx hb dL_law_1041 ?_
      rw [show (nI i) + 1 = nI (i + 1) from nI_add i 1]
      refine va_sld hx hb hX hbl hbA hS (vp_in_nI (by omega) (by omega)) dL_law_1042 ?_
      rw [show (nI (i + 1)).toNatClampNeg = i + 1 from nI_clamp (by omega)]
      rw [h1]
      refine lv_aload_n hx hb dL_law_1043 rfl (lv_at hl 4 rfl) ?_
      refine lv_iload hx hb dL_law_1044 (lv_at hl 0 rfl) ?_
      refine lv_iconst (v := 2) hx hb dL_law_1046 (by decide) ?_
      refine lv_iadd hx hb dL_law_1047 ?_
      rw [show (nI i) + 2 = nI (i + 2) from nI_add i 2]
      refine va_sld hx hb hX hbl hbA hS (vp_in_nI (by omega) (by omega)) dL_law_1048 ?_
      rw [show (nI (i + 2)).toNatClampNeg = i + 2 from nI_clamp (by omega)]
      rw [h2]
      refine lv_aload_n hx hb dL_law_1049 rfl (lv_at hl 1 rfl) ?_
      refine g_LS (As := [.ref x0, .int (nI 0), .int (nI q), .ref o]) (rest := []) ⟨hx, hb, hml, hown, hts⟩ (mt_L_plain0 l htr dC dI cA cL H.size x0 r0 r1 r2 r3 rn a0 L0 f0 a2 n2 f2 a3 n3 f3 q o fo hR0 hq) (vx_cwSW 4 hts gL_law_L_plain rfl rfl rfl hdL_plain ⟨Nat.le_of_ble_eq_true rfl, Nat.le_of_ble_eq_true rfl⟩) hP hKl hD hS hA hZ [0, 1, 2, 5, 6, 7, 8, 15] (by decide) rfl rfl hl.1 rfl (Nat.le_of_ble_eq_true rfl) dL_law_1050 hc0 hs0 (fun u9 => [(x0, .inr (1, [.ref r0, .ref r1, .ref r2, .ref r3, .int (nI rn)])), (r0, .inr (0, [.ref a0, .int (nI L0.length)])), (a0, .inl (cA, (100, .inl f0))), (r1, .inr (0, [.ref a1, .int (nI L1.length)])), (a1, .inl (cA, (100, .inl f1))), (r2, .inr (0, [.ref a2, .int u9.1])), (a2, .inl (cA, (100, .inl u9.2.1))), (r3, .inr (0, [.ref a3, .int u9.2.2.1])), (a3, .inl (cA, (100, .inl u9.2.2.2))), (y0, .inr (2, [.int tv, .int (nI rn), .ref q1, .ref q2, .int mn, .ref q3, .ref q4, .int ct, .int il, .ref q5])), (q1, .inl (cA, (2, .inl sf))), (q2, .inl (cA, (60, .inl lf))), (q3, .inl (cA, (320, .inl rf))), (q4, .inl (cA, (320, .inl nf))), (q5, .inl (cA, (6, .inl gf))), (o, .inl (cL, (1, .inr (.inl (vp_updL fo 0 (paI (plain L0) q).toInt64)))))]) (fun _ => rfl) (fun _ => rfl) (fun u H locs hw_5 hP hD hS => ?_)
      obtain ⟨m2_1, g2_2, m3_3, g3_4⟩ := u
      have hw_5 : True := hw_5
      have hP : va_P (dC, dI) vwCl [(x0, .inr (1, [.ref r0, .ref r1, .ref r2, .ref r3, .int (nI rn)])), (r0, .inr (0, [.ref a0, .int (nI L0.length)])), (a0, .inl (cA, (100, .inl f0))), (r1, .inr (0, [.ref a1, .int (nI L1.length)])), (a1, .inl (cA, (100, .inl f1))), (r2, .inr (0, [.ref a2, .int m2_1])), (a2, .inl (cA, (100, .inl g2_2))), (r3, .inr (0, [.ref a3, .int m3_3])), (a3, .inl (cA, (100, .inl g3_4))), (y0, .inr (2, [.int tv, .int (nI rn), .ref q1, .ref q2, .int mn, .ref q3, .ref q4, .int ct, .int il, .ref q5])), (q1, .inl (cA, (2, .inl sf))), (q2, .inl (cA, (60, .inl lf))), (q3, .inl (cA, (320, .inl rf))), (q4, .inl (cA, (320, .inl nf))), (q5, .inl (cA, (6, .inl gf))), (o, .inl (cL, (1, .inr (.inl (vp_updL fo 0 (paI (plain L0) q).toInt64)))))] H := hP
      have hD : va_D A [(x0, .inr (1, [.ref r0, .ref r1, .ref r2, .ref r3, .int (nI rn)])), (r0, .inr (0, [.ref a0, .int (nI L0.length)])), (a0, .inl (cA, (100, .inl f0))), (r1, .inr (0, [.ref a1, .int (nI L1.length)])), (a1, .inl (cA, (100, .inl f1))), (r2, .inr (0, [.ref a2, .int m2_1])), (a2, .inl (cA, (100, .inl g2_2))), (r3, .inr (0, [.ref a3, .int m3_3])), (a3, .inl (cA, (100, .inl g3_4))), (y0, .inr (2, [.int tv, .int (nI rn), .ref q1, .ref q2, .int mn, .ref q3, .ref q4, .int ct, .int il, .ref q5])), (q1, .inl (cA, (2, .inl sf))), (q2, .inl (cA, (60, .inl lf))), (q3, .inl (cA, (320, .inl rf))), (q4, .inl (cA, (320, .inl nf))), (q5, .inl (cA, (6, .inl gf))), (o, .inl (cL, (1, .inr (.inl (vp_updL fo 0 (paI (plain L0) q).toInt64)))))] := hD
      refine lv_istore (lv' := [(5, .int 0), (4, .int (nI i)), (3, .ref o), (2, .ref y0), (1, .ref x0), (0, .ref b)]) hx hb dL_law_1053 hl (by decide) rfl (fun ls hl => ?_)
      refine lv_aload_n hx hb dL_law_1055 rfl (lv_at hl 3 rfl) ?_
      refine lv_aload_n hx hb dL_law_1056 rfl (lv_at hl 5 rfl) ?_
      refine lv_iload hx hb dL_law_1057 (lv_at hl 1 rfl) ?_
      refine lv_iconst (v := 1) hx hb dL_law_1059 (by decide) ?_
      refine lv_iadd hx hb dL_law_1060 ?_
      rw [show (nI i) + 1 = nI (i + 1) from nI_add i 1]
      refine va_sld hx hb hX hbl hbA hS (vp_in_nI (by omega) (by omega)) dL_law_1061 ?_
      rw [show (nI (i + 1)).toNatClampNeg = i + 1 from nI_clamp (by omega)]
      rw [h1]
      refine lv_aload_n hx hb dL_law_1062 rfl (lv_at hl 5 rfl) ?_
      refine lv_iload hx hb dL_law_1063 (lv_at hl 1 rfl) ?_
      refine lv_iconst (v := 2) hx hb dL_law_1065 (by decide) ?_
      refine lv_iadd hx hb dL_law_1066 ?_
      rw [show (nI i) + 2 = nI (i + 2) from nI_add i 2]
      refine va_sld hx hb hX hbl hbA hS (vp_in_nI (by omega) (by omega)) dL_law_1067 ?_
      rw [show (nI (i + 2)).toNatClampNeg = i + 2 from nI_clamp (by omega)]
      rw [h2]
      refine g_MVi (As := [.int (nI 0), .int (nI q)]) (rest := []) ⟨hx, hb, hml, hown, hts⟩ (mt_X2_plain l dC dI cA H.size y0 q1 q2 q3 q4 q5 rn tv sf lf mn rf nf ct il gf (V2 L0 L1) 0 q hW hrn hr6 hok (by omega) hq) (cwV 2 hts gL_law_X2_plain rfl rfl rfl hdX2_plain ⟨Nat.le_of_ble_eq_true rfl, Nat.le_of_ble_eq_true rfl⟩) hP hK hD hS hA [9, 10, 11, 12, 13, 14] (by decide) rfl (va_recv hK hP (ci := 2) (q0 := 9) rfl rfl) rfl hl.1 rfl (Nat.le_of_ble_eq_true rfl) dL_law_1068 hc0 hs0 (fun u9 => [(x0, .inr (1, [.ref r0, .ref r1, .ref r2, .ref r3, .int (nI rn)])), (r0, .inr (0, [.ref a0, .int (nI L0.length)])), (a0, .inl (cA, (100, .inl f0))), (r1, .inr (0, [.ref a1, .int (nI L1.length)])), (a1, .inl (cA, (100, .inl f1))), (r2, .inr (0, [.ref a2, .int m2_1])), (a2, .inl (cA, (100, .inl g2_2))), (r3, .inr (0, [.ref a3, .int m3_3])), (a3, .inl (cA, (100, .inl g3_4))), (y0, .inr (2, [.int 0, .int (nI rn), .ref q1, .ref q2, .int u9.1, .ref q3, .ref q4, .int u9.2.2.2.1, .int u9.2.2.2.2, .ref q5])), (q1, .inl (cA, (2, .inl sf))), (q2, .inl (cA, (60, .inl lf))), (q3, .inl (cA, (320, .inl u9.2.1))), (q4, .inl (cA, (320, .inl u9.2.2.1))), (q5, .inl (cA, (6, .inl gf))), (o, .inl (cL, (1, .inr (.inl (vp_updL fo 0 (paI (plain L0) q).toInt64)))))]) (fun _ => rfl) (fun _ => rfl) (fun u H locs hw_11 hP hD hS => ?_)
      obtain ⟨m1_6, r1_7, n1_8, c1_9, i1_10⟩ := u
      have hw_11 : True := hw_11
      have hP : va_P (dC, dI) vwCl [(x0, .inr (1, [.ref r0, .ref r1, .ref r2, .ref r3, .int (nI rn)])), (r0, .inr (0, [.ref a0, .int (nI L0.length)])), (a0, .inl (cA, (100, .inl f0))), (r1, .inr (0, [.ref a1, .int (nI L1.length)])), (a1, .inl (cA, (100, .inl f1))), (r2, .inr (0, [.ref a2, .int m2_1])), (a2, .inl (cA, (100, .inl g2_2))), (r3, .inr (0, [.ref a3, .int m3_3])), (a3, .inl (cA, (100, .inl g3_4))), (y0, .inr (2, [.int 0, .int (nI rn), .ref q1, .ref q2, .int m1_6, .ref q3, .ref q4, .int c1_9, .int i1_10, .ref q5])), (q1, .inl (cA, (2, .inl sf))), (q2, .inl (cA, (60, .inl lf))), (q3, .inl (cA, (320, .inl r1_7))), (q4, .inl (cA, (320, .inl n1_8))), (q5, .inl (cA, (6, .inl gf))), (o, .inl (cL, (1, .inr (.inl (vp_updL fo 0 (paI (plain L0) q).toInt64)))))] H := hP
      have hD : va_D A [(x0, .inr (1, [.ref r0, .ref r1, .ref r2, .ref r3, .int (nI rn)])), (r0, .inr (0, [.ref a0, .int (nI L0.length)])), (a0, .inl (cA, (100, .inl f0))), (r1, .inr (0, [.ref a1, .int (nI L1.length)])), (a1, .inl (cA, (100, .inl f1))), (r2, .inr (0, [.ref a2, .int m2_1])), (a2, .inl (cA, (100, .inl g2_2))), (r3, .inr (0, [.ref a3, .int m3_3])), (a3, .inl (cA, (100, .inl g3_4))), (y0, .inr (2, [.int 0, .int (nI rn), .ref q1, .ref q2, .int m1_6, .ref q3, .ref q4, .int c1_9, .int i1_10, .ref q5])), (q1, .inl (cA, (2, .inl sf))), (q2, .inl (cA, (60, .inl lf))), (q3, .inl (cA, (320, .inl r1_7))), (q4, .inl (cA, (320, .inl n1_8))), (q5, .inl (cA, (6, .inl gf))), (o, .inl (cL, (1, .inr (.inl (vp_updL fo 0 (paI (plain L0) q).toInt64)))))] := hD
      refine lv_istore (lv' := [(6, .int (paI (plain ((V2 L0 L1) 0)) q)), (5, .int 0), (4, .int (nI i)), (3, .ref o), (2, .ref y0), (1, .ref x0), (0, .ref b)]) hx hb dL_law_1071 hl (by decide) rfl (fun ls hl => ?_)
      refine lv_aload_n hx hb dL_law_1073 rfl (lv_at hl 4 rfl) ?_
      refine g_RVi (As := []) (rest := []) ⟨hx, hb, hml, hown, hts⟩ (mt_X2_thrown l dC dI cA H.size y0 q1 q2 q3 q4 q5 rn 0 sf lf m1_6 r1_7 n1_8 c1_9 i1_10 gf) (cwV 0 hts gL_law_X2_thrown rfl rfl rfl hdX2_thrown ⟨Nat.le_of_ble_eq_true rfl, Nat.le_of_ble_eq_true rfl⟩) hP hK hD [9, 10, 11, 12, 13, 14] (by decide) rfl (va_recv hK hP (ci := 2) (q0 := 9) rfl rfl) rfl hl.1 rfl (Nat.le_of_ble_eq_true rfl) dL_law_1074 hc0 hs0 ?_
      refine lv_iload hx hb dL_law_1077 (lv_at hl 1 rfl) ?_
      refine lv_icmp_eq (tgt := 1084) hx hb dL_law_1079 (by decide) (fun c1079 => ?_) (fun c1079 => ?_)
      · refine lv_iload hx hb dL_law_1084 (lv_at hl 1 rfl) ?_
        refine lv_if_ne (tgt := 1101) hx hb dL_law_1086 (by decide) (fun c1086 => ?_) (fun c1086 => ?_)
        · exact absurd (by decide) c1086
        · have c1086 : 0 = 0 := g_neF 0 0 (by omega) (by omega) c1086
          refine lv_aload_n hx hb dL_law_1089 rfl (lv_at hl 3 rfl) ?_
          refine lv_iconst (v := 0) hx hb dL_law_1090 (by decide) ?_
          refine va_lald hx hb hKl hP 15 1 rfl rfl (vp_in_nI (n := 0) (by omega) (by decide)) dL_law_1091 ?_
          rw [show (0 : Int32).toNatClampNeg = 0 from by decide, pk_uLs]
          refine lv_iload hx hb dL_law_1092 (lv_at hl 0 rfl) ?_
          refine lv_i2l (v := (paI (plain ((V2 L0 L1) 0)) q).toInt64) hx hb dL_law_1094 rfl ?_
          refine W.lcmp hx hb dL_law_1095 ?_
          rw [show lg_cmp ((paI (plain L0) q).toInt64) ((paI (plain ((V2 L0 L1) 0)) q).toInt64) = 0 from (lg_cmp_eq _ _).mpr rfl]
          refine lv_if_eq (tgt := 1101) hx hb dL_law_1096 (by decide) (fun c1096 => ?_) (fun c1096 => ?_)
          · have c1096 : 0 = 0 := g_eqT 0 0 (by omega) (by omega) c1096
            refine lv_goto (tgt := 1241) hx hb dL_law_1101 (by decide) ?_
            exact kk rn L0 L1 _ _ _ _ _ ⟨f0, f1, m2_1, g2_2, m3_3, g3_4, 0, sf, lf, m1_6, r1_7, n1_8, c1_9, i1_10, gf, vp_updL fo 0 (paI (plain L0) q).toInt64, hP, hD, hS, hR0, hR1, hl0, hl1, hrn, hr6, hk0, hk1, hW⟩ (by omega) (by omega) (lv_sub hl [2, 3, 4, 5, 6] rfl)
          · exact absurd (by decide) c1096
      · exact absurd (by decide) c1079
  · rcases pk_ix (xs (i + 2)) (n := 4) (by decide) with hbad | hbad | ⟨q, hq, h2⟩
    · refine lv_aload_n hx hb dL_law_1036 rfl (lv_at hl 3 rfl) ?_
      refine lv_aload_n hx hb dL_law_1037 rfl (lv_at hl 4 rfl) ?_
      refine lv_iload hx hb dL_law_1038 (lv_at hl 0 rfl) ?_
      refine lv_iconst (v := 1) hx hb dL_law_1040 (by decide) ?_
      refine lv_iadd hx hb dL_law_1041 ?_
      rw [show (nI i) + 1 = nI (i + 1) from nI_add i 1]
      refine va_sld hx hb hX hbl hbA hS (vp_in_nI (by omega) (by omega)) dL_law_1042 ?_
      rw [show (nI (i + 1)).toNatClampNeg = i + 1 from nI_clamp (by omega)]
      rw [h1]
      refine lv_aload_n hx hb dL_law_1043 rfl (lv_at hl 4 rfl) ?_
      refine lv_iload hx hb dL_law_1044 (lv_at hl 0 rfl) ?_
      refine lv_iconst (v := 2) hx hb dL_law_1046 (by decide) ?_
      refine lv_iadd hx hb dL_law_1047 ?_
      rw [show (nI i) + 2 = nI (i + 2) from nI_add i 2]
      refine va_sld hx hb hX hbl hbA hS (vp_in_nI (by omega) (by omega)) dL_law_1048 ?_
      rw [show (nI (i + 2)).toNatClampNeg = i + 2 from nI_clamp (by omega)]
      refine lv_aload_n hx hb dL_law_1049 rfl (lv_at hl 1 rfl) ?_
      refine g_LS (As := [.ref x0, .int (nI 1), .int (xs (i + 2)), .ref o]) (rest := []) ⟨hx, hb, hml, hown, hts⟩ (mt_L_plain_1b_1 l htr dC dI cA cL H.size x0 r0 r1 r2 r3 rn (xs (i + 2)) o fo (Or.inl hbad)) (vx_cwSW 4 hts gL_law_L_plain rfl rfl rfl hdL_plain ⟨Nat.le_of_ble_eq_true rfl, Nat.le_of_ble_eq_true rfl⟩) hP hKl hD hS hA hZ [0, 15] (by decide) rfl rfl hl.1 rfl (Nat.le_of_ble_eq_true rfl) dL_law_1050 hc1 hs1 (fun u9 => [(x0, .inr (1, [.ref r0, .ref r1, .ref r2, .ref r3, .int (nI rn)])), (r0, .inr (0, [.ref a0, .int (nI L0.length)])), (a0, .inl (cA, (100, .inl f0))), (r1, .inr (0, [.ref a1, .int (nI L1.length)])), (a1, .inl (cA, (100, .inl f1))), (r2, .inr (0, [.ref a2, .int n2])), (a2, .inl (cA, (100, .inl f2))), (r3, .inr (0, [.ref a3, .int n3])), (a3, .inl (cA, (100, .inl f3))), (y0, .inr (2, [.int tv, .int (nI rn), .ref q1, .ref q2, .int mn, .ref q3, .ref q4, .int ct, .int il, .ref q5])), (q1, .inl (cA, (2, .inl sf))), (q2, .inl (cA, (60, .inl lf))), (q3, .inl (cA, (320, .inl rf))), (q4, .inl (cA, (320, .inl nf))), (q5, .inl (cA, (6, .inl gf))), (o, .inl (cL, (1, .inr (.inl fo))))]) (fun _ => rfl) (fun _ => rfl) (fun u H locs hw_1 hP hD hS => ?_)
      have hP : va_P (dC, dI) vwCl [(x0, .inr (1, [.ref r0, .ref r1, .ref r2, .ref r3, .int (nI rn)])), (r0, .inr (0, [.ref a0, .int (nI L0.length)])), (a0, .inl (cA, (100, .inl f0))), (r1, .inr (0, [.ref a1, .int (nI L1.length)])), (a1, .inl (cA, (100, .inl f1))), (r2, .inr (0, [.ref a2, .int n2])), (a2, .inl (cA, (100, .inl f2))), (r3, .inr (0, [.ref a3, .int n3])), (a3, .inl (cA, (100, .inl f3))), (y0, .inr (2, [.int tv, .int (nI rn), .ref q1, .ref q2, .int mn, .ref q3, .ref q4, .int ct, .int il, .ref q5])), (q1, .inl (cA, (2, .inl sf))), (q2, .inl (cA, (60, .inl lf))), (q3, .inl (cA, (320, .inl rf))), (q4, .inl (cA, (320, .inl nf))), (q5, .inl (cA, (6, .inl gf))), (o, .inl (cL, (1, .inr (.inl fo))))] H := hP
      have hD : va_D A [(x0, .inr (1, [.ref r0, .ref r1, .ref r2, .ref r3, .int (nI rn)])), (r0, .inr (0, [.ref a0, .int (nI L0.length)])), (a0, .inl (cA, (100, .inl f0))), (r1, .inr (0, [.ref a1, .int (nI L1.length)])), (a1, .inl (cA, (100, .inl f1))), (r2, .inr (0, [.ref a2, .int n2])), (a2, .inl (cA, (100, .inl f2))), (r3, .inr (0, [.ref a3, .int n3])), (a3, .inl (cA, (100, .inl f3))), (y0, .inr (2, [.int tv, .int (nI rn), .ref q1, .ref q2, .int mn, .ref q3, .ref q4, .int ct, .int il, .ref q5])), (q1, .inl (cA, (2, .inl sf))), (q2, .inl (cA, (60, .inl lf))), (q3, .inl (cA, (320, .inl rf))), (q4, .inl (cA, (320, .inl nf))), (q5, .inl (cA, (6, .inl gf))), (o, .inl (cL, (1, .inr (.inl fo))))] := hD
      refine lv_istore (lv' := [(5, .int 1), (4, .int (nI i)), (3, .ref o), (2, .ref y0), (1, .ref x0), (0, .ref b)]) hx hb dL_law_1053 hl (by decide) rfl (fun ls hl => ?_)
      refine lv_aload_n hx hb dL_law_1055 rfl (lv_at hl 3 rfl) ?_
      refine lv_aload_n hx hb dL_law_1056 rfl (lv_at hl 5 rfl) ?_
      refine lv_iload hx hb dL_law_1057 (lv_at hl 1 rfl) ?_
      refine lv_iconst (v := 1) hx hb dL_law_1059 (by decide) ?_
      refine lv_iadd hx hb dL_law_1060 ?_
      rw [show (nI i) + 1 = nI (i + 1) from nI_add i 1]
      refine va_sld hx hb hX hbl hbA hS (vp_in_nI (by omega) (by omega)) dL_law_1061 ?_
      rw [show (nI (i + 1)).toNatClampNeg = i + 1 from nI_clamp (by omega)]
      rw [h1]
      refine lv_aload_n hx hb dL_law_1062 rfl (lv_at hl 5 rfl) ?_
      refine lv_iload hx hb dL_law_1063 (lv_at hl 1 rfl) ?_
      refine lv_iconst (v := 2) hx hb dL_law_1065 (by decide) ?_
      refine lv_iadd hx hb dL_law_1066 ?_
      rw [show (nI i) + 2 = nI (i + 2) from nI_add i 2]
      refine va_sld hx hb hX hbl hbA hS (vp_in_nI (by omega) (by omega)) dL_law_1067 ?_
      rw [show (nI (i + 2)).toNatClampNeg = i + 2 from nI_clamp (by omega)]
      refine g_MVi (As := [.int (nI 1), .int (xs (i + 2))]) (rest := []) ⟨hx, hb, hml, hown, hts⟩ (mt_X2_plain_1b l dC dI cA H.size y0 q1 q2 q3 q4 q5 rn tv sf lf mn rf nf ct il gf 1 (xs (i + 2)) (by omega) (Or.inl hbad)) (cwV 2 hts gL_law_X2_plain rfl rfl rfl hdX2_plain ⟨Nat.le_of_ble_eq_true rfl, Nat.le_of_ble_eq_true rfl⟩) hP hK hD hS hA [9, 10, 11, 12, 13, 14] (by decide) rfl (va_recv hK hP (ci := 2) (q0 := 9) rfl rfl) rfl hl.1 rfl (Nat.le_of_ble_eq_true rfl) dL_law_1068 hc1 hs1 (fun u9 => [(x0, .inr (1, [.ref r0, .ref r1, .ref r2, .ref r3, .int (nI rn)])), (r0, .inr (0, [.ref a0, .int (nI L0.length)])), (a0, .inl (cA, (100, .inl f0))), (r1, .inr (0, [.ref a1, .int (nI L1.length)])), (a1, .inl (cA, (100, .inl f1))), (r2, .inr (0, [.ref a2, .int n2])), (a2, .inl (cA, (100, .inl f2))), (r3, .inr (0, [.ref a3, .int n3])), (a3, .inl (cA, (100, .inl f3))), (y0, .inr (2, [.int 1, .int (nI rn), .ref q1, .ref q2, .int mn, .ref q3, .ref q4, .int ct, .int il, .ref q5])), (q1, .inl (cA, (2, .inl sf))), (q2, .inl (cA, (60, .inl lf))), (q3, .inl (cA, (320, .inl rf))), (q4, .inl (cA, (320, .inl nf))), (q5, .inl (cA, (6, .inl gf))), (o, .inl (cL, (1, .inr (.inl fo))))]) (fun _ => rfl) (fun _ => rfl) (fun u H locs hw_2 hP hD hS => ?_)
      have hw_2 : True := hw_2
      have hP : va_P (dC, dI) vwCl [(x0, .inr (1, [.ref r0, .ref r1, .ref r2, .ref r3, .int (nI rn)])), (r0, .inr (0, [.ref a0, .int (nI L0.length)])), (a0, .inl (cA, (100, .inl f0))), (r1, .inr (0, [.ref a1, .int (nI L1.length)])), (a1, .inl (cA, (100, .inl f1))), (r2, .inr (0, [.ref a2, .int n2])), (a2, .inl (cA, (100, .inl f2))), (r3, .inr (0, [.ref a3, .int n3])), (a3, .inl (cA, (100, .inl f3))), (y0, .inr (2, [.int 1, .int (nI rn), .ref q1, .ref q2, .int mn, .ref q3, .ref q4, .int ct, .int il, .ref q5])), (q1, .inl (cA, (2, .inl sf))), (q2, .inl (cA, (60, .inl lf))), (q3, .inl (cA, (320, .inl rf))), (q4, .inl (cA, (320, .inl nf))), (q5, .inl (cA, (6, .inl gf))), (o, .inl (cL, (1, .inr (.inl fo))))] H := hP
      have hD : va_D A [(x0, .inr (1, [.ref r0, .ref r1, .ref r2, .ref r3, .int (nI rn)])), (r0, .inr (0, [.ref a0, .int (nI L0.length)])), (a0, .inl (cA, (100, .inl f0))), (r1, .inr (0, [.ref a1, .int (nI L1.length)])), (a1, .inl (cA, (100, .inl f1))), (r2, .inr (0, [.ref a2, .int n2])), (a2, .inl (cA, (100, .inl f2))), (r3, .inr (0, [.ref a3, .int n3])), (a3, .inl (cA, (100, .inl f3))), (y0, .inr (2, [.int 1, .int (nI rn), .ref q1, .ref q2, .int mn, .ref q3, .ref q4, .int ct, .int il, .ref q5])), (q1, .inl (cA, (2, .inl sf))), (q2, .inl (cA, (60, .inl lf))), (q3, .inl (cA, (320, .inl rf))), (q4, .inl (cA, (320, .inl nf))), (q5, .inl (cA, (6, .inl gf))), (o, .inl (cL, (1, .inr (.inl fo))))] := hD
      refine lv_istore (lv' := [(6, .int 0), (5, .int 1), (4, .int (nI i)), (3, .ref o), (2, .ref y0), (1, .ref x0), (0, .ref b)]) hx hb dL_law_1071 hl (by decide) rfl (fun ls hl => ?_)
      refine lv_aload_n hx hb dL_law_1073 rfl (lv_at hl 4 rfl) ?_
      refine g_RVi (As := []) (rest := []) ⟨hx, hb, hml, hown, hts⟩ (mt_X2_thrown l dC dI cA H.size y0 q1 q2 q3 q4 q5 rn 1 sf lf mn rf nf ct il gf) (cwV 0 hts gL_law_X2_thrown rfl rfl rfl hdX2_thrown ⟨Nat.le_of_ble_eq_true rfl, Nat.le_of_ble_eq_true rfl⟩) hP hK hD [9, 10, 11, 12, 13, 14] (by decide) rfl (va_recv hK hP (ci := 2) (q0 := 9) rfl rfl) rfl hl.1 rfl (Nat.le_of_ble_eq_true rfl) dL_law_1074 hc1 hs1 ?_
      refine lv_iload hx hb dL_law_1077 (lv_at hl 1 rfl) ?_
      refine lv_icmp_eq (tgt := 1084) hx hb dL_law_1079 (by decide) (fun c1079 => ?_) (fun c1079 => ?_)
      · refine lv_iload hx hb dL_law_1084 (lv_at hl 1 rfl) ?_
        refine lv_if_ne (tgt := 1101) hx hb dL_law_1086 (by decide) (fun c1086 => ?_) (fun c1086 => ?_)
        · have c1086 : ¬ 1 = 0 := g_neT 1 0 (by omega) (by omega) c1086
          refine lv_goto (tgt := 1241) hx hb dL_law_1101 (by decide) ?_
          exact kk rn L0 L1 _ _ _ _ _ ⟨f0, f1, n2, f2, n3, f3, 1, sf, lf, mn, rf, nf, ct, il, gf, fo, hP, hD, hS, hR0, hR1, hl0, hl1, hrn, hr6, hk0, hk1, hW⟩ (by omega) (by omega) (lv_sub hl [2, 3, 4, 5, 6] rfl)
        · exact absurd c1086 (by decide)
      · exact absurd (by decide) c1079
    · refine lv_aload_n hx hb dL_law_1036 rfl (lv_at hl 3 rfl) ?_
      refine lv_aload_n hx hb dL_law_1037 rfl (lv_at hl 4 rfl) ?_
      refine lv_iload hx hb dL_law_1038 (lv_at hl 0 rfl) ?_
      refine lv_iconst (v := 1) hx hb dL_law_1040 (by decide) ?_
      refine lv_iadd hx hb dL_law_1041 ?_
      rw [show (nI i) + 1 = nI (i + 1) from nI_add i 1]
      refine va_sld hx hb hX hbl hbA hS (vp_in_nI (by omega) (by omega)) dL_law_1042 ?_
      rw [show (nI (i + 1)).toNatClampNeg = i + 1 from nI_clamp (by omega)]
      rw [h1]
      refine lv_aload_n hx hb dL_law_1043 rfl (lv_at hl 4 rfl) ?_
      refine lv_iload hx hb dL_law_1044 (lv_at hl 0 rfl) ?_
      refine lv_iconst (v := 2) hx hb dL_law_1046 (by decide) ?_
      refine lv_iadd hx hb dL_law_1047 ?_
      rw [show (nI i) + 2 = nI (i + 2) from nI_add i 2]
      refine va_sld hx hb hX hbl hbA hS (vp_in_nI (by omega) (by omega)) dL_law_1048 ?_
      rw [show (nI (i + 2)).toNatClampNeg = i + 2 from nI_clamp (by omega)]
      refine lv_aload_n hx hb dL_law_1049 rfl (lv_at hl 1 rfl) ?_
      refine g_LS (As := [.ref x0, .int (nI 1), .int (xs (i + 2)), .ref o]) (rest := []) ⟨hx, hb, hml, hown, hts⟩ (mt_L_plain_1b_1 l htr dC dI cA cL H.size x0 r0 r1 r2 r3 rn (xs (i + 2)) o fo (Or.inr hbad)) (vx_cwSW 4 hts gL_law_L_plain rfl rfl rfl hdL_plain ⟨Nat.le_of_ble_eq_true rfl, Nat.le_of_ble_eq_true rfl⟩) hP hKl hD hS hA hZ [0, 15] (by decide) rfl rfl hl.1 rfl (Nat.le_of_ble_eq_true rfl) dL_law_1050 hc1 hs1 (fun u9 => [(x0, .inr (1, [.ref r0, .ref r1, .ref r2, .ref r3, .int (nI rn)])), (r0, .inr (0, [.ref a0, .int (nI L0.length)])), (a0, .inl (cA, (100, .inl f0))), (r1, .inr (0, [.ref a1, .int (nI L1.length)])), (a1, .inl (cA, (100, .inl f1))), (r2, .inr (0, [.ref a2, .int n2])), (a2, .inl (cA, (100, .inl f2))), (r3, .inr (0, [.ref a3, .int n3])), (a3, .inl (cA, (100, .inl f3))), (y0, .inr (2, [.int tv, .int (nI rn), .ref q1, .ref q2, .int mn, .ref q3, .ref q4, .int ct, .int il, .ref q5])), (q1, .inl (cA, (2, .inl sf))), (q2, .inl (cA, (60, .inl lf))), (q3, .inl (cA, (320, .inl rf))), (q4, .inl (cA, (320, .inl nf))), (q5, .inl (cA, (6, .inl gf))), (o, .inl (cL, (1, .inr (.inl fo))))]) (fun _ => rfl) (fun _ => rfl) (fun u H locs hw_1 hP hD hS => ?_)
      have hP : va_P (dC, dI) vwCl [(x0, .inr (1, [.ref r0, .ref r1, .ref r2, .ref r3, .int (nI rn)])), (r0, .inr (0, [.ref a0, .int (nI L0.length)])), (a0, .inl (cA, (100, .inl f0))), (r1, .inr (0, [.ref a1, .int (nI L1.length)])), (a1, .inl (cA, (100, .inl f1))), (r2, .inr (0, [.ref a2, .int n2])), (a2, .inl (cA, (100, .inl f2))), (r3, .inr (0, [.ref a3, .int n3])), (a3, .inl (cA, (100, .inl f3))), (y0, .inr (2, [.int tv, .int (nI rn), .ref q1, .ref q2, .int mn, .ref q3, .ref q4, .int ct, .int il, .ref q5])), (q1, .inl (cA, (2, .inl sf))), (q2, .inl (cA, (60, .inl lf))), (q3, .inl (cA, (320, .inl rf))), (q4, .inl (cA, (320, .inl nf))), (q5, .inl (cA, (6, .inl gf))), (o, .inl (cL, (1, .inr (.inl fo))))] H := hP
      have hD : va_D A [(x0, .inr (1, [.ref r0, .ref r1, .ref r2, .ref r3, .int (nI rn)])), (r0, .inr (0, [.ref a0, .int (nI L0.length)])), (a0, .inl (cA, (100, .inl f0))), (r1, .inr (0, [.ref a1, .int (nI L1.length)])), (a1, .inl (cA, (100, .inl f1))), (r2, .inr (0, [.ref a2, .int n2])), (a2, .inl (cA, (100, .inl f2))), (r3, .inr (0, [.ref a3, .int n3])), (a3, .inl (cA, (100, .inl f3))), (y0, .inr (2, [.int tv, .int (nI rn), .ref q1, .ref q2, .int mn, .ref q3, .ref q4, .int ct, .int il, .ref q5])), (q1, .inl (cA, (2, .inl sf))), (q2, .inl (cA, (60, .inl lf))), (q3, .inl (cA, (320, .inl rf))), (q4, .inl (cA, (320, .inl nf))), (q5, .inl (cA, (6, .inl gf))), (o, .inl (cL, (1, .inr (.inl fo))))] := hD
      refine lv_istore (lv' := [(5, .int 1), (4, .int (nI i)), (3, .ref o), (2, .ref y0), (1, .ref x0), (0, .ref b)]) hx hb dL_law_1053 hl (by decide) rfl (fun ls hl => ?_)
      refine lv_aload_n hx hb dL_law_1055 rfl (lv_at hl 3 rfl) ?_
      refine lv_aload_n hx hb dL_law_1056 rfl (lv_at hl 5 rfl) ?_
      refine lv_iload hx hb dL_law_1057 (lv_at hl 1 rfl) ?_
      refine lv_iconst (v := 1) hx hb dL_law_1059 (by decide) ?_
      refine lv_iadd hx hb dL_law_1060 ?_
      rw [show (nI i) + 1 = nI (i + 1) from nI_add i 1]
      refine va_sld hx hb hX hbl hbA hS (vp_in_nI (by omega) (by omega)) dL_law_1061 ?_
      rw [show (nI (i + 1)).toNatClampNeg = i + 1 from nI_clamp (by omega)]
      rw [h1]
      refine lv_aload_n hx hb dL_law_1062 rfl (lv_at hl 5 rfl) ?_
      refine lv_iload hx hb dL_law_1063 (lv_at hl 1 rfl) ?_
      refine lv_iconst (v := 2) hx hb dL_law_1065 (by decide) ?_
      refine lv_iadd hx hb dL_law_1066 ?_
      rw [show (nI i) + 2 = nI (i + 2) from nI_add i 2]
      refine va_sld hx hb hX hbl hbA hS (vp_in_nI (by omega) (by omega)) dL_law_1067 ?_
      rw [show (nI (i + 2)).toNatClampNeg = i + 2 from nI_clamp (by omega)]
      refine g_MVi (As := [.int (nI 1), .int (xs (i + 2))]) (rest := []) ⟨hx, hb, hml, hown, hts⟩ (mt_X2_plain_1b l dC dI cA H.size y0 q1 q2 q3 q4 q5 rn tv sf lf mn rf nf ct il gf 1 (xs (i + 2)) (by omega) (Or.inr hbad)) (cwV 2 hts gL_law_X2_plain rfl rfl rfl hdX2_plain ⟨Nat.le_of_ble_eq_true rfl, Nat.le_of_ble_eq_true rfl⟩) hP hK hD hS hA [9, 10, 11, 12, 13, 14] (by decide) rfl (va_recv hK hP (ci := 2) (q0 := 9) rfl rfl) rfl hl.1 rfl (Nat.le_of_ble_eq_true rfl) dL_law_1068 hc1 hs1 (fun u9 => [(x0, .inr (1, [.ref r0, .ref r1, .ref r2, .ref r3, .int (nI rn)])), (r0, .inr (0, [.ref a0, .int (nI L0.length)])), (a0, .inl (cA, (100, .inl f0))), (r1, .inr (0, [.ref a1, .int (nI L1.length)])), (a1, .inl (cA, (100, .inl f1))), (r2, .inr (0, [.ref a2, .int n2])), (a2, .inl (cA, (100, .inl f2))), (r3, .inr (0, [.ref a3, .int n3])), (a3, .inl (cA, (100, .inl f3))), (y0, .inr (2, [.int 1, .int (nI rn), .ref q1, .ref q2, .int mn, .ref q3, .ref q4, .int ct, .int il, .ref q5])), (q1, .inl (cA, (2, .inl sf))), (q2, .inl (cA, (60, .inl lf))), (q3, .inl (cA, (320, .inl rf))), (q4, .inl (cA, (320, .inl nf))), (q5, .inl (cA, (6, .inl gf))), (o, .inl (cL, (1, .inr (.inl fo))))]) (fun _ => rfl) (fun _ => rfl) (fun u H locs hw_2 hP hD hS => ?_)
      have hw_2 : True := hw_2
      have hP : va_P (dC, dI) vwCl [(x0, .inr (1, [.ref r0, .ref r1, .ref r2, .ref r3, .int (nI rn)])), (r0, .inr (0, [.ref a0, .int (nI L0.length)])), (a0, .inl (cA, (100, .inl f0))), (r1, .inr (0, [.ref a1, .int (nI L1.length)])), (a1, .inl (cA, (100, .inl f1))), (r2, .inr (0, [.ref a2, .int n2])), (a2, .inl (cA, (100, .inl f2))), (r3, .inr (0, [.ref a3, .int n3])), (a3, .inl (cA, (100, .inl f3))), (y0, .inr (2, [.int 1, .int (nI rn), .ref q1, .ref q2, .int mn, .ref q3, .ref q4, .int ct, .int il, .ref q5])), (q1, .inl (cA, (2, .inl sf))), (q2, .inl (cA, (60, .inl lf))), (q3, .inl (cA, (320, .inl rf))), (q4, .inl (cA, (320, .inl nf))), (q5, .inl (cA, (6, .inl gf))), (o, .inl (cL, (1, .inr (.inl fo))))] H := hP
      have hD : va_D A [(x0, .inr (1, [.ref r0, .ref r1, .ref r2, .ref r3, .int (nI rn)])), (r0, .inr (0, [.ref a0, .int (nI L0.length)])), (a0, .inl (cA, (100, .inl f0))), (r1, .inr (0, [.ref a1, .int (nI L1.length)])), (a1, .inl (cA, (100, .inl f1))), (r2, .inr (0, [.ref a2, .int n2])), (a2, .inl (cA, (100, .inl f2))), (r3, .inr (0, [.ref a3, .int n3])), (a3, .inl (cA, (100, .inl f3))), (y0, .inr (2, [.int 1, .int (nI rn), .ref q1, .ref q2, .int mn, .ref q3, .ref q4, .int ct, .int il, .ref q5])), (q1, .inl (cA, (2, .inl sf))), (q2, .inl (cA, (60, .inl lf))), (q3, .inl (cA, (320, .inl rf))), (q4, .inl (cA, (320, .inl nf))), (q5, .inl (cA, (6, .inl gf))), (o, .inl (cL, (1, .inr (.inl fo))))] := hD
      refine lv_istore (lv' := [(6, .int 0), (5, .int 1), (4, .int (nI i)), (3, .ref o), (2, .ref y0), (1, .ref x0), (0, .ref b)]) hx hb dL_law_1071 hl (by decide) rfl (fun ls hl => ?_)
      refine lv_aload_n hx hb dL_law_1073 rfl (lv_at hl 4 rfl) ?_
      refine g_RVi (As := []) (rest := []) ⟨hx, hb, hml, hown, hts⟩ (mt_X2_thrown l dC dI cA H.size y0 q1 q2 q3 q4 q5 rn 1 sf lf mn rf nf ct il gf) (cwV 0 hts gL_law_X2_thrown rfl rfl rfl hdX2_thrown ⟨Nat.le_of_ble_eq_true rfl, Nat.le_of_ble_eq_true rfl⟩) hP hK hD [9, 10, 11, 12, 13, 14] (by decide) rfl (va_recv hK hP (ci := 2) (q0 := 9) rfl rfl) rfl hl.1 rfl (Nat.le_of_ble_eq_true rfl) dL_law_1074 hc1 hs1 ?_
      refine lv_iload hx hb dL_law_1077 (lv_at hl 1 rfl) ?_
      refine lv_icmp_eq (tgt := 1084) hx hb dL_law_1079 (by decide) (fun c1079 => ?_) (fun c1079 => ?_)
      · refine lv_iload hx hb dL_law_1084 (lv_at hl 1 rfl) ?_
        refine lv_if_ne (tgt := 1101) hx hb dL_law_1086 (by decide) (fun c1086 => ?_) (fun c1086 => ?_)
        · have c1086 : ¬ 1 = 0 := g_neT 1 0 (by omega) (by omega) c1086
          refine lv_goto (tgt := 1241) hx hb dL_law_1101 (by decide) ?_
          exact kk rn L0 L1 _ _ _ _ _ ⟨f0, f1, n2, f2, n3, f3, 1, sf, lf, mn, rf, nf, ct, il, gf, fo, hP, hD, hS, hR0, hR1, hl0, hl1, hrn, hr6, hk0, hk1, hW⟩ (by omega) (by omega) (lv_sub hl [2, 3, 4, 5, 6] rfl)
        · exact absurd c1086 (by decide)
      · exact absurd (by decide) c1079
    · refine lv_aload_n hx hb dL_law_1036 rfl (lv_at hl 3 rfl) ?_
      refine lv_aload_n hx hb dL_law_1037 rfl (lv_at hl 4 rfl) ?_
      refine lv_iload hx hb dL_law_1038 (lv_at hl 0 rfl) ?_
      refine lv_iconst (v := 1) hx hb dL_law_1040 (by decide) ?_
      refine lv_iadd hx hb dL_law_1041 ?_
      rw [show (nI i) + 1 = nI (i + 1) from nI_add i 1]
      refine va_sld hx hb hX hbl hbA hS (vp_in_nI (by omega) (by omega)) dL_law_1042 ?_
      rw [show (nI (i + 1)).toNatClampNeg = i + 1 from nI_clamp (by omega)]
      rw [h1]
      refine lv_aload_n hx hb dL_law_1043 rfl (lv_at hl 4 rfl) ?_
      refine lv_iload hx hb dL_law_1044 (lv_at hl 0 rfl) ?_
      refine lv_iconst (v := 2) hx hb dL_law_1046 (by decide) ?_
      refine lv_iadd hx hb dL_law_1047 ?_
      rw [show (nI i) + 2 = nI (i + 2) from nI_add i 2]
      refine va_sld hx hb hX hbl hbA hS (vp_in_nI (by omega) (by omega)) dL_law_1048 ?_
      rw [show (nI (i + 2)).toNatClampNeg = i + 2 from nI_clamp (by omega)]
      rw [h2]
      refine lv_aload_n hx hb dL_law_1049 rfl (lv_at hl 1 rfl) ?_
      refine g_LS (As := [.ref x0, .int (nI 1), .int (nI q), .ref o]) (rest := []) ⟨hx, hb, hml, hown, hts⟩ (mt_L_plain1 l htr dC dI cA cL H.size x0 r0 r1 r2 r3 rn a1 L1 f1 a2 n2 f2 a3 n3 f3 q o fo hR1 hq) (vx_cwSW 4 hts gL_law_L_plain rfl rfl rfl hdL_plain ⟨Nat.le_of_ble_eq_true rfl, Nat.le_of_ble_eq_true rfl⟩) hP hKl hD hS hA hZ [0, 3, 4, 5, 6, 7, 8, 15] (by decide) rfl rfl hl.1 rfl (Nat.le_of_ble_eq_true rfl) dL_law_1050 hc0 hs0 (fun u9 => [(x0, .inr (1, [.ref r0, .ref r1, .ref r2, .ref r3, .int (nI rn)])), (r0, .inr (0, [.ref a0, .int (nI L0.length)])), (a0, .inl (cA, (100, .inl f0))), (r1, .inr (0, [.ref a1, .int (nI L1.length)])), (a1, .inl (cA, (100, .inl f1))), (r2, .inr (0, [.ref a2, .int u9.1])), (a2, .inl (cA, (100, .inl u9.2.1))), (r3, .inr (0, [.ref a3, .int u9.2.2.1])), (a3, .inl (cA, (100, .inl u9.2.2.2))), (y0, .inr (2, [.int tv, .int (nI rn), .ref q1, .ref q2, .int mn, .ref q3, .ref q4, .int ct, .int il, .ref q5])), (q1, .inl (cA, (2, .inl sf))), (q2, .inl (cA, (60, .inl lf))), (q3, .inl (cA, (320, .inl rf))), (q4, .inl (cA, (320, .inl nf))), (q5, .inl (cA, (6, .inl gf))), (o, .inl (cL, (1, .inr (.inl (vp_updL fo 0 (paI (plain L1) q).toInt64)))))]) (fun _ => rfl) (fun _ => rfl) (fun u H locs hw_5 hP hD hS => ?_)
      obtain ⟨m2_1, g2_2, m3_3, g3_4⟩ := u
      have hw_5 : True := hw_5
      have hP : va_P (dC, dI) vwCl [(x0, .inr (1, [.ref r0, .ref r1, .ref r2, .ref r3, .int (nI rn)])), (r0, .inr (0, [.ref a0, .int (nI L0.length)])), (a0, .inl (cA, (100, .inl f0))), (r1, .inr (0, [.ref a1, .int (nI L1.length)])), (a1, .inl (cA, (100, .inl f1))), (r2, .inr (0, [.ref a2, .int m2_1])), (a2, .inl (cA, (100, .inl g2_2))), (r3, .inr (0, [.ref a3, .int m3_3])), (a3, .inl (cA, (100, .inl g3_4))), (y0, .inr (2, [.int tv, .int (nI rn), .ref q1, .ref q2, .int mn, .ref q3, .ref q4, .int ct, .int il, .ref q5])), (q1, .inl (cA, (2, .inl sf))), (q2, .inl (cA, (60, .inl lf))), (q3, .inl (cA, (320, .inl rf))), (q4, .inl (cA, (320, .inl nf))), (q5, .inl (cA, (6, .inl gf))), (o, .inl (cL, (1, .inr (.inl (vp_updL fo 0 (paI (plain L1) q).toInt64)))))] H := hP
      have hD : va_D A [(x0, .inr (1, [.ref r0, .ref r1, .ref r2, .ref r3, .int (nI rn)])), (r0, .inr (0, [.ref a0, .int (nI L0.length)])), (a0, .inl (cA, (100, .inl f0))), (r1, .inr (0, [.ref a1, .int (nI L1.length)])), (a1, .inl (cA, (100, .inl f1))), (r2, .inr (0, [.ref a2, .int m2_1])), (a2, .inl (cA, (100, .inl g2_2))), (r3, .inr (0, [.ref a3, .int m3_3])), (a3, .inl (cA, (100, .inl g3_4))), (y0, .inr (2, [.int tv, .int (nI rn), .ref q1, .ref q2, .int mn, .ref q3, .ref q4, .int ct, .int il, .ref q5])), (q1, .inl (cA, (2, .inl sf))), (q2, .inl (cA, (60, .inl lf))), (q3, .inl (cA, (320, .inl rf))), (q4, .inl (cA, (320, .inl nf))), (q5, .inl (cA, (6, .inl gf))), (o, .inl (cL, (1, .inr (.inl (vp_updL fo 0 (paI (plain L1) q).toInt64)))))] := hD
      refine lv_istore (lv' := [(5, .int 0), (4, .int (nI i)), (3, .ref o), (2, .ref y0), (1, .ref x0), (0, .ref b)]) hx hb dL_law_1053 hl (by decide) rfl (fun ls hl => ?_)
      refine lv_aload_n hx hb dL_law_1055 rfl (lv_at hl 3 rfl) ?_
      refine lv_aload_n hx hb dL_law_1056 rfl (lv_at hl 5 rfl) ?_
      refine lv_iload hx hb dL_law_1057 (lv_at hl 1 rfl) ?_
      refine lv_iconst (v := 1) hx hb dL_law_1059 (by decide) ?_
      refine lv_iadd hx hb dL_law_1060 ?_
      rw [show (nI i) + 1 = nI (i + 1) from nI_add i 1]
      refine va_sld hx hb hX hbl hbA hS (vp_in_nI (by omega) (by omega)) dL_law_1061 ?_
      rw [show (nI (i + 1)).toNatClampNeg = i + 1 from nI_clamp (by omega)]
      rw [h1]
      refine lv_aload_n hx hb dL_law_1062 rfl (lv_at hl 5 rfl) ?_
      refine lv_iload hx hb dL_law_1063 (lv_at hl 1 rfl) ?_
      refine lv_iconst (v := 2) hx hb dL_law_1065 (by decide) ?_
      refine lv_iadd hx hb dL_law_1066 ?_
      rw [show (nI i) + 2 = nI (i + 2) from nI_add i 2]
      refine va_sld hx hb hX hbl hbA hS (vp_in_nI (by omega) (by omega)) dL_law_1067 ?_
      rw [show (nI (i + 2)).toNatClampNeg = i + 2 from nI_clamp (by omega)]
      rw [h2]
      refine g_MVi (As := [.int (nI 1), .int (nI q)]) (rest := []) ⟨hx, hb, hml, hown, hts⟩ (mt_X2_plain l dC dI cA H.size y0 q1 q2 q3 q4 q5 rn tv sf lf mn rf nf ct il gf (V2 L0 L1) 1 q hW hrn hr6 hok (by omega) hq) (cwV 2 hts gL_law_X2_plain rfl rfl rfl hdX2_plain ⟨Nat.le_of_ble_eq_true rfl, Nat.le_of_ble_eq_true rfl⟩) hP hK hD hS hA [9, 10, 11, 12, 13, 14] (by decide) rfl (va_recv hK hP (ci := 2) (q0 := 9) rfl rfl) rfl hl.1 rfl (Nat.le_of_ble_eq_true rfl) dL_law_1068 hc0 hs0 (fun u9 => [(x0, .inr (1, [.ref r0, .ref r1, .ref r2, .ref r3, .int (nI rn)])), (r0, .inr (0, [.ref a0, .int (nI L0.length)])), (a0, .inl (cA, (100, .inl f0))), (r1, .inr (0, [.ref a1, .int (nI L1.length)])), (a1, .inl (cA, (100, .inl f1))), (r2, .inr (0, [.ref a2, .int m2_1])), (a2, .inl (cA, (100, .inl g2_2))), (r3, .inr (0, [.ref a3, .int m3_3])), (a3, .inl (cA, (100, .inl g3_4))), (y0, .inr (2, [.int 0, .int (nI rn), .ref q1, .ref q2, .int u9.1, .ref q3, .ref q4, .int u9.2.2.2.1, .int u9.2.2.2.2, .ref q5])), (q1, .inl (cA, (2, .inl sf))), (q2, .inl (cA, (60, .inl lf))), (q3, .inl (cA, (320, .inl u9.2.1))), (q4, .inl (cA, (320, .inl u9.2.2.1))), (q5, .inl (cA, (6, .inl gf))), (o, .inl (cL, (1, .inr (.inl (vp_updL fo 0 (paI (plain L1) q).toInt64)))))]) (fun _ => rfl) (fun _ => rfl) (fun u H locs hw_11 hP hD hS => ?_)
      obtain ⟨m1_6, r1_7, n1_8, c1_9, i1_10⟩ := u
      have hw_11 : True := hw_11
      have hP : va_P (dC, dI) vwCl [(x0, .inr (1, [.ref r0, .ref r1, .ref r2, .ref r3, .int (nI rn)])), (r0, .inr (0, [.ref a0, .int (nI L0.length)])), (a0, .inl (cA, (100, .inl f0))), (r1, .inr (0, [.ref a1, .int (nI L1.length)])), (a1, .inl (cA, (100, .inl f1))), (r2, .inr (0, [.ref a2, .int m2_1])), (a2, .inl (cA, (100, .inl g2_2))), (r3, .inr (0, [.ref a3, .int m3_3])), (a3, .inl (cA, (100, .inl g3_4))), (y0, .inr (2, [.int 0, .int (nI rn), .ref q1, .ref q2, .int m1_6, .ref q3, .ref q4, .int c1_9, .int i1_10, .ref q5])), (q1, .inl (cA, (2, .inl sf))), (q2, .inl (cA, (60, .inl lf))), (q3, .inl (cA, (320, .inl r1_7))), (q4, .inl (cA, (320, .inl n1_8))), (q5, .inl (cA, (6, .inl gf))), (o, .inl (cL, (1, .inr (.inl (vp_updL fo 0 (paI (plain L1) q).toInt64)))))] H := hP
      have hD : va_D A [(x0, .inr (1, [.ref r0, .ref r1, .ref r2, .ref r3, .int (nI rn)])), (r0, .inr (0, [.ref a0, .int (nI L0.length)])), (a0, .inl (cA, (100, .inl f0))), (r1, .inr (0, [.ref a1, .int (nI L1.length)])), (a1, .inl (cA, (100, .inl f1))), (r2, .inr (0, [.ref a2, .int m2_1])), (a2, .inl (cA, (100, .inl g2_2))), (r3, .inr (0, [.ref a3, .int m3_3])), (a3, .inl (cA, (100, .inl g3_4))), (y0, .inr (2, [.int 0, .int (nI rn), .ref q1, .ref q2, .int m1_6, .ref q3, .ref q4, .int c1_9, .int i1_10, .ref q5])), (q1, .inl (cA, (2, .inl sf))), (q2, .inl (cA, (60, .inl lf))), (q3, .inl (cA, (320, .inl r1_7))), (q4, .inl (cA, (320, .inl n1_8))), (q5, .inl (cA, (6, .inl gf))), (o, .inl (cL, (1, .inr (.inl (vp_updL fo 0 (paI (plain L1) q).toInt64)))))] := hD
      refine lv_istore (lv' := [(6, .int (paI (plain ((V2 L0 L1) 1)) q)), (5, .int 0), (4, .int (nI i)), (3, .ref o), (2, .ref y0), (1, .ref x0), (0, .ref b)]) hx hb dL_law_1071 hl (by decide) rfl (fun ls hl => ?_)
      refine lv_aload_n hx hb dL_law_1073 rfl (lv_at hl 4 rfl) ?_
      refine g_RVi (As := []) (rest := []) ⟨hx, hb, hml, hown, hts⟩ (mt_X2_thrown l dC dI cA H.size y0 q1 q2 q3 q4 q5 rn 0 sf lf m1_6 r1_7 n1_8 c1_9 i1_10 gf) (cwV 0 hts gL_law_X2_thrown rfl rfl rfl hdX2_thrown ⟨Nat.le_of_ble_eq_true rfl, Nat.le_of_ble_eq_true rfl⟩) hP hK hD [9, 10, 11, 12, 13, 14] (by decide) rfl (va_recv hK hP (ci := 2) (q0 := 9) rfl rfl) rfl hl.1 rfl (Nat.le_of_ble_eq_true rfl) dL_law_1074 hc0 hs0 ?_
      refine lv_iload hx hb dL_law_1077 (lv_at hl 1 rfl) ?_
      refine lv_icmp_eq (tgt := 1084) hx hb dL_law_1079 (by decide) (fun c1079 => ?_) (fun c1079 => ?_)
      · refine lv_iload hx hb dL_law_1084 (lv_at hl 1 rfl) ?_
        refine lv_if_ne (tgt := 1101) hx hb dL_law_1086 (by decide) (fun c1086 => ?_) (fun c1086 => ?_)
        · exact absurd (by decide) c1086
        · have c1086 : 0 = 0 := g_neF 0 0 (by omega) (by omega) c1086
          refine lv_aload_n hx hb dL_law_1089 rfl (lv_at hl 3 rfl) ?_
          refine lv_iconst (v := 0) hx hb dL_law_1090 (by decide) ?_
          refine va_lald hx hb hKl hP 15 1 rfl rfl (vp_in_nI (n := 0) (by omega) (by decide)) dL_law_1091 ?_
          rw [show (0 : Int32).toNatClampNeg = 0 from by decide, pk_uLs]
          refine lv_iload hx hb dL_law_1092 (lv_at hl 0 rfl) ?_
          refine lv_i2l (v := (paI (plain ((V2 L0 L1) 1)) q).toInt64) hx hb dL_law_1094 rfl ?_
          refine W.lcmp hx hb dL_law_1095 ?_
          rw [show lg_cmp ((paI (plain L1) q).toInt64) ((paI (plain ((V2 L0 L1) 1)) q).toInt64) = 0 from (lg_cmp_eq _ _).mpr rfl]
          refine lv_if_eq (tgt := 1101) hx hb dL_law_1096 (by decide) (fun c1096 => ?_) (fun c1096 => ?_)
          · have c1096 : 0 = 0 := g_eqT 0 0 (by omega) (by omega) c1096
            refine lv_goto (tgt := 1241) hx hb dL_law_1101 (by decide) ?_
            exact kk rn L0 L1 _ _ _ _ _ ⟨f0, f1, m2_1, g2_2, m3_3, g3_4, 0, sf, lf, m1_6, r1_7, n1_8, c1_9, i1_10, gf, vp_updL fo 0 (paI (plain L1) q).toInt64, hP, hD, hS, hR0, hR1, hl0, hl1, hrn, hr6, hk0, hk1, hW⟩ (by omega) (by omega) (lv_sub hl [2, 3, 4, 5, 6] rfl)
          · exact absurd (by decide) c1096
      · exact absurd (by decide) c1079

set_option maxHeartbeats 4000000 in
set_option maxRecDepth 100000 in
theorem lw_op_15 {p : Program} {l : Launch} {e : Env} {s : State} {m : MethodId} {below : List Frame} {meth : Method} {c : Code} {Q : State → Prop} {b L : Nat} {xs : Nat → Int32} {dC : Nat → ClassId} {dI : Nat → Nat → Nat} {cA cL : ClassId} {A : Nat → Prop} (E : lwE p l s m c b L xs dC dI cA cL A) {x0 r0 r1 r2 r3 a0 a1 a2 a3 y0 q1 q2 q3 q4 q5 o : Nat} {i : Nat} (hi : i + 4 ≤ L) {cells slots : Nat} (hC : cells + 1 ≤ 1053) (hS9 : slots + 6 ≤ 9402) {rn : Nat} {L0 L1 : List Int32} {H : Heap} {locs : List Loc} (hI : lwI dC dI cA cL A s.heap x0 r0 r1 r2 r3 a0 a1 a2 a3 y0 q1 q2 q3 q4 q5 o rn L0 L1 H locs) {ls : Array Slot} (hl : lv_has ls 9 [(4, .int (nI i)), (3, .ref o), (2, .ref y0), (1, .ref x0), (0, .ref b)])
    (kk : ∀ (rn : Nat) (L0 L1 : List Int32) (H : Heap) (locs : List Loc) (cells1 slots1 : Nat) (ls : Array Slot), lwI dC dI cA cL A s.heap x0 r0 r1 r2 r3 a0 a1 a2 a3 y0 q1 q2 q3 q4 q5 o rn L0 L1 H locs → cells1 ≤ cells + 1 → slots1 ≤ slots + 6 → lv_has ls 9 [(4, .int (nI i)), (3, .ref o), (2, .ref y0), (1, .ref x0), (0, .ref b)] → W p l e room_1 s m #[Value.ref b] below meth c H locs cells1 slots1 Q (F0 m 1241 ls [])) :
    W p l e room_1 s m #[Value.ref b] below meth c H locs cells slots Q (F0 m 1104 ls []) := by
  obtain ⟨hx, hb, hml, hown, hts, hX, hbl, hbA, hA, htr, hKl, hZ, hL2⟩ := E
  obtain ⟨f0, f1, n2, f2, n3, f3, tv, sf, lf, mn, rf, nf, ct, il, gf, fo, hP, hD, hS, hR0, hR1, hl0, hl1, hrn, hr6, hk0, hk1, hW⟩ := hI
  have hK : va_K (dC, dI) vwCl [(cA, .int)] s := hKl.sub [0] rfl
  have hok := V2_ok hk0 hk1
  have hc0 : cells ≤ room_1.cells := (show cells ≤ 1053 from by omega)
  have hs0 : slots ≤ room_1.slots := (show slots ≤ 9402 from by omega)
  have hc1 : cells + 1 ≤ room_1.cells := hC
  have hs1 : slots + 6 ≤ room_1.slots := hS9
  refine lv_aload_n hx hb dL_law_1104 rfl (lv_at hl 3 rfl) ?_
  refine g_MVi (As := []) (rest := []) ⟨hx, hb, hml, hown, hts⟩ (mt_X1_same l dC dI cA H.size x0 r0 r1 r2 r3 rn a0 a1 L0 f0 L1 f1 a2 n2 f2 a3 n3 f3 hR0 hR1 (by first | omega | (simp only [List.length_append, List.length_cons, List.length_nil, List.length_set, turnL_len]; omega))) (cwV 0 hts gL_law_X1_same rfl rfl rfl hdX1_same ⟨Nat.le_of_ble_eq_true rfl, Nat.le_of_ble_eq_true rfl⟩) hP hK hD hS hA [0, 1, 2, 3, 4, 5, 6, 7, 8] (by decide) rfl (va_recv hK hP (ci := 1) (q0 := 0) rfl rfl) rfl hl.1 rfl (Nat.le_of_ble_eq_true rfl) dL_law_1105 hc0 hs0 (fun u9 => [(x0, .inr (1, [.ref r0, .ref r1, .ref r2, .ref r3, .int (nI rn)])), (r0, .inr (0, [.ref a0, .int (nI L0.length)])), (a0, .inl (cA, (100, .inl f0))), (r1, .inr (0, [.ref a1, .int (nI L1.length)])), (a1, .inl (cA, (100, .inl f1))), (r2, .inr (0, [.ref a2, .int u9.1])), (a2, .inl (cA, (100, .inl u9.2.1))), (r3, .inr (0, [.ref a3, .int u9.2.2.1])), (a3, .inl (cA, (100, .inl u9.2.2.2))), (y0, .inr (2, [.int tv, .int (nI rn), .ref q1, .ref q2, .int mn, .ref q3, .ref q4, .int ct, .int il, .ref q5])), (q1, .inl (cA, (2, .inl sf))), (q2, .inl (cA, (60, .inl lf))), (q3, .inl (cA, (320, .inl rf))), (q4, .inl (cA, (320, .inl nf))), (q5, .inl (cA, (6, .inl gf))), (o, .inl (cL, (1, .inr (.inl fo))))]) (fun _ => rfl) (fun _ => rfl) (fun u H locs hw_5 hP hD hS => ?_)
  obtain ⟨m2_1, g2_2, m3_3, g3_4⟩ := u
  have hw_5 : True := hw_5
  have hP : va_P (dC, dI) vwCl [(x0, .inr (1, [.ref r0, .ref r1, .ref r2, .ref r3, .int (nI rn)])), (r0, .inr (0, [.ref a0, .int (nI L0.length)])), (a0, .inl (cA, (100, .inl f0))), (r1, .inr (0, [.ref a1, .int (nI L1.length)])), (a1, .inl (cA, (100, .inl f1))), (r2, .inr (0, [.ref a2, .int m2_1])), (a2, .inl (cA, (100, .inl g2_2))), (r3, .inr (0, [.ref a3, .int m3_3])), (a3, .inl (cA, (100, .inl g3_4))), (y0, .inr (2, [.int tv, .int (nI rn), .ref q1, .ref q2, .int mn, .ref q3, .ref q4, .int ct, .int il, .ref q5])), (q1, .inl (cA, (2, .inl sf))), (q2, .inl (cA, (60, .inl lf))), (q3, .inl (cA, (320, .inl rf))), (q4, .inl (cA, (320, .inl nf))), (q5, .inl (cA, (6, .inl gf))), (o, .inl (cL, (1, .inr (.inl fo))))] H := hP
  have hD : va_D A [(x0, .inr (1, [.ref r0, .ref r1, .ref r2, .ref r3, .int (nI rn)])), (r0, .inr (0, [.ref a0, .int (nI L0.length)])), (a0, .inl (cA, (100, .inl f0))), (r1, .inr (0, [.ref a1, .int (nI L1.length)])), (a1, .inl (cA, (100, .inl f1))), (r2, .inr (0, [.ref a2, .int m2_1])), (a2, .inl (cA, (100, .inl g2_2))), (r3, .inr (0, [.ref a3, .int m3_3])), (a3, .inl (cA, (100, .inl g3_4))), (y0, .inr (2, [.int tv, .int (nI rn), .ref q1, .ref q2, .int mn, .ref q3, .ref q4, .int ct, .int il, .ref q5])), (q1, .inl (cA, (2, .inl sf))), (q2, .inl (cA, (60, .inl lf))), (q3, .inl (cA, (320, .inl rf))), (q4, .inl (cA, (320, .inl nf))), (q5, .inl (cA, (6, .inl gf))), (o, .inl (cL, (1, .inr (.inl fo))))] := hD
  refine lv_aload_n hx hb dL_law_1108 rfl (lv_at hl 2 rfl) ?_
  refine g_MVi (As := []) (rest := [.int (saI (plain (turnL L0 ++ L1)))]) ⟨hx, hb, hml, hown, hts⟩ (mt_X2_same l dC dI cA H.size y0 q1 q2 q3 q4 q5 rn tv sf lf mn rf nf ct il gf (V2 L0 L1) hW hrn hr6 hok) (cwV 0 hts gL_law_X2_same rfl rfl rfl hdX2_same ⟨Nat.le_of_ble_eq_true rfl, Nat.le_of_ble_eq_true rfl⟩) hP hK hD hS hA [9, 10, 11, 12, 13, 14] (by decide) rfl (va_recv hK hP (ci := 2) (q0 := 9) rfl rfl) rfl hl.1 rfl (Nat.le_of_ble_eq_true rfl) dL_law_1109 hc0 hs0 (fun u9 => [(x0, .inr (1, [.ref r0, .ref r1, .ref r2, .ref r3, .int (nI rn)])), (r0, .inr (0, [.ref a0, .int (nI L0.length)])), (a0, .inl (cA, (100, .inl f0))), (r1, .inr (0, [.ref a1, .int (nI L1.length)])), (a1, .inl (cA, (100, .inl f1))), (r2, .inr (0, [.ref a2, .int m2_1])), (a2, .inl (cA, (100, .inl g2_2))), (r3, .inr (0, [.ref a3, .int m3_3])), (a3, .inl (cA, (100, .inl g3_4))), (y0, .inr (2, [.int 0, .int (nI rn), .ref q1, .ref q2, .int u9.1, .ref q3, .ref q4, .int u9.2.2.2.1, .int u9.2.2.2.2, .ref q5])), (q1, .inl (cA, (2, .inl sf))), (q2, .inl (cA, (60, .inl lf))), (q3, .inl (cA, (320, .inl u9.2.1))), (q4, .inl (cA, (320, .inl u9.2.2.1))), (q5, .inl (cA, (6, .inl gf))), (o, .inl (cL, (1, .inr (.inl fo))))]) (fun _ => rfl) (fun _ => rfl) (fun u H locs hw_11 hP hD hS => ?_)
  obtain ⟨m1_6, r1_7, n1_8, c1_9, i1_10⟩ := u
  have hw_11 : True := hw_11
  have hP : va_P (dC, dI) vwCl [(x0, .inr (1, [.ref r0, .ref r1, .ref r2, .ref r3, .int (nI rn)])), (r0, .inr (0, [.ref a0, .int (nI L0.length)])), (a0, .inl (cA, (100, .inl f0))), (r1, .inr (0, [.ref a1, .int (nI L1.length)])), (a1, .inl (cA, (100, .inl f1))), (r2, .inr (0, [.ref a2, .int m2_1])), (a2, .inl (cA, (100, .inl g2_2))), (r3, .inr (0, [.ref a3, .int m3_3])), (a3, .inl (cA, (100, .inl g3_4))), (y0, .inr (2, [.int 0, .int (nI rn), .ref q1, .ref q2, .int m1_6, .ref q3, .ref q4, .int c1_9, .int i1_10, .ref q5])), (q1, .inl (cA, (2, .inl sf))), (q2, .inl (cA, (60, .inl lf))), (q3, .inl (cA, (320, .inl r1_7))), (q4, .inl (cA, (320, .inl n1_8))), (q5, .inl (cA, (6, .inl gf))), (o, .inl (cL, (1, .inr (.inl fo))))] H := hP
  have hD : va_D A [(x0, .inr (1, [.ref r0, .ref r1, .ref r2, .ref r3, .int (nI rn)])), (r0, .inr (0, [.ref a0, .int (nI L0.length)])), (a0, .inl (cA, (100, .inl f0))), (r1, .inr (0, [.ref a1, .int (nI L1.length)])), (a1, .inl (cA, (100, .inl f1))), (r2, .inr (0, [.ref a2, .int m2_1])), (a2, .inl (cA, (100, .inl g2_2))), (r3, .inr (0, [.ref a3, .int m3_3])), (a3, .inl (cA, (100, .inl g3_4))), (y0, .inr (2, [.int 0, .int (nI rn), .ref q1, .ref q2, .int m1_6, .ref q3, .ref q4, .int c1_9, .int i1_10, .ref q5])), (q1, .inl (cA, (2, .inl sf))), (q2, .inl (cA, (60, .inl lf))), (q3, .inl (cA, (320, .inl r1_7))), (q4, .inl (cA, (320, .inl n1_8))), (q5, .inl (cA, (6, .inl gf))), (o, .inl (cL, (1, .inr (.inl fo))))] := hD
  refine lv_icmp_eq (tgt := 1241) hx hb dL_law_1112 (by decide) (fun c1112 => ?_) (fun c1112 => ?_)
  · exact kk rn L0 L1 _ _ _ _ _ ⟨f0, f1, m2_1, g2_2, m3_3, g3_4, 0, sf, lf, m1_6, r1_7, n1_8, c1_9, i1_10, gf, fo, hP, hD, hS, hR0, hR1, hl0, hl1, hrn, hr6, hk0, hk1, hW⟩ (by omega) (by omega) (lv_sub hl [0, 1, 2, 3, 4] rfl)
  · exact absurd rfl c1112

set_option maxHeartbeats 4000000 in
set_option maxRecDepth 100000 in
theorem lw_op_16 {p : Program} {l : Launch} {e : Env} {s : State} {m : MethodId} {below : List Frame} {meth : Method} {c : Code} {Q : State → Prop} {b L : Nat} {xs : Nat → Int32} {dC : Nat → ClassId} {dI : Nat → Nat → Nat} {cA cL : ClassId} {A : Nat → Prop} (E : lwE p l s m c b L xs dC dI cA cL A) {x0 r0 r1 r2 r3 a0 a1 a2 a3 y0 q1 q2 q3 q4 q5 o : Nat} {i : Nat} (hi : i + 4 ≤ L) {cells slots : Nat} (hC : cells + 1 ≤ 1053) (hS9 : slots + 6 ≤ 9402) {rn : Nat} {L0 L1 : List Int32} {H : Heap} {locs : List Loc} (hI : lwI dC dI cA cL A s.heap x0 r0 r1 r2 r3 a0 a1 a2 a3 y0 q1 q2 q3 q4 q5 o rn L0 L1 H locs) {ls : Array Slot} (hl : lv_has ls 9 [(4, .int (nI i)), (3, .ref o), (2, .ref y0), (1, .ref x0), (0, .ref b)])
    (kk : ∀ (rn : Nat) (L0 L1 : List Int32) (H : Heap) (locs : List Loc) (cells1 slots1 : Nat) (ls : Array Slot), lwI dC dI cA cL A s.heap x0 r0 r1 r2 r3 a0 a1 a2 a3 y0 q1 q2 q3 q4 q5 o rn L0 L1 H locs → cells1 ≤ cells + 1 → slots1 ≤ slots + 6 → lv_has ls 9 [(4, .int (nI i)), (3, .ref o), (2, .ref y0), (1, .ref x0), (0, .ref b)] → W p l e room_1 s m #[Value.ref b] below meth c H locs cells1 slots1 Q (F0 m 1241 ls [])) :
    W p l e room_1 s m #[Value.ref b] below meth c H locs cells slots Q (F0 m 1117 ls []) := by
  obtain ⟨hx, hb, hml, hown, hts, hX, hbl, hbA, hA, htr, hKl, hZ, hL2⟩ := E
  obtain ⟨f0, f1, n2, f2, n3, f3, tv, sf, lf, mn, rf, nf, ct, il, gf, fo, hP, hD, hS, hR0, hR1, hl0, hl1, hrn, hr6, hk0, hk1, hW⟩ := hI
  have hK : va_K (dC, dI) vwCl [(cA, .int)] s := hKl.sub [0] rfl
  have hok := V2_ok hk0 hk1
  have hc0 : cells ≤ room_1.cells := (show cells ≤ 1053 from by omega)
  have hs0 : slots ≤ room_1.slots := (show slots ≤ 9402 from by omega)
  have hc1 : cells + 1 ≤ room_1.cells := hC
  have hs1 : slots + 6 ≤ room_1.slots := hS9
  refine lv_aload_n hx hb dL_law_1117 rfl (lv_at hl 3 rfl) ?_
  refine g_MVi (As := []) (rest := []) ⟨hx, hb, hml, hown, hts⟩ (mt_X1_ahead l dC dI cA H.size x0 r0 r1 r2 r3 rn a0 a1 L0 f0 L1 f1 a2 n2 f2 a3 n3 f3 hR0 hR1 (by first | omega | (simp only [List.length_append, List.length_cons, List.length_nil, List.length_set, turnL_len]; omega))) (cwV 0 hts gL_law_X1_ahead rfl rfl rfl hdX1_ahead ⟨Nat.le_of_ble_eq_true rfl, Nat.le_of_ble_eq_true rfl⟩) hP hK hD hS hA [0, 1, 2, 3, 4, 5, 6, 7, 8] (by decide) rfl (va_recv hK hP (ci := 1) (q0 := 0) rfl rfl) rfl hl.1 rfl (Nat.le_of_ble_eq_true rfl) dL_law_1118 hc0 hs0 (fun u9 => [(x0, .inr (1, [.ref r0, .ref r1, .ref r2, .ref r3, .int (nI rn)])), (r0, .inr (0, [.ref a0, .int (nI L0.length)])), (a0, .inl (cA, (100, .inl f0))), (r1, .inr (0, [.ref a1, .int (nI L1.length)])), (a1, .inl (cA, (100, .inl f1))), (r2, .inr (0, [.ref a2, .int u9.1])), (a2, .inl (cA, (100, .inl u9.2.1))), (r3, .inr (0, [.ref a3, .int u9.2.2.1])), (a3, .inl (cA, (100, .inl u9.2.2.2))), (y0, .inr (2, [.int tv, .int (nI rn), .ref q1, .ref q2, .int mn, .ref q3, .ref q4, .int ct, .int il, .ref q5])), (q1, .inl (cA, (2, .inl sf))), (q2, .inl (cA, (60, .inl lf))), (q3, .inl (cA, (320, .inl rf))), (q4, .inl (cA, (320, .inl nf))), (q5, .inl (cA, (6, .inl gf))), (o, .inl (cL, (1, .inr (.inl fo))))]) (fun _ => rfl) (fun _ => rfl) (fun u H locs hw_5 hP hD hS => ?_)
  obtain ⟨m2_1, g2_2, m3_3, g3_4⟩ := u
  have hw_5 : True := hw_5
  have hP : va_P (dC, dI) vwCl [(x0, .inr (1, [.ref r0, .ref r1, .ref r2, .ref r3, .int (nI rn)])), (r0, .inr (0, [.ref a0, .int (nI L0.length)])), (a0, .inl (cA, (100, .inl f0))), (r1, .inr (0, [.ref a1, .int (nI L1.length)])), (a1, .inl (cA, (100, .inl f1))), (r2, .inr (0, [.ref a2, .int m2_1])), (a2, .inl (cA, (100, .inl g2_2))), (r3, .inr (0, [.ref a3, .int m3_3])), (a3, .inl (cA, (100, .inl g3_4))), (y0, .inr (2, [.int tv, .int (nI rn), .ref q1, .ref q2, .int mn, .ref q3, .ref q4, .int ct, .int il, .ref q5])), (q1, .inl (cA, (2, .inl sf))), (q2, .inl (cA, (60, .inl lf))), (q3, .inl (cA, (320, .inl rf))), (q4, .inl (cA, (320, .inl nf))), (q5, .inl (cA, (6, .inl gf))), (o, .inl (cL, (1, .inr (.inl fo))))] H := hP
  have hD : va_D A [(x0, .inr (1, [.ref r0, .ref r1, .ref r2, .ref r3, .int (nI rn)])), (r0, .inr (0, [.ref a0, .int (nI L0.length)])), (a0, .inl (cA, (100, .inl f0))), (r1, .inr (0, [.ref a1, .int (nI L1.length)])), (a1, .inl (cA, (100, .inl f1))), (r2, .inr (0, [.ref a2, .int m2_1])), (a2, .inl (cA, (100, .inl g2_2))), (r3, .inr (0, [.ref a3, .int m3_3])), (a3, .inl (cA, (100, .inl g3_4))), (y0, .inr (2, [.int tv, .int (nI rn), .ref q1, .ref q2, .int mn, .ref q3, .ref q4, .int ct, .int il, .ref q5])), (q1, .inl (cA, (2, .inl sf))), (q2, .inl (cA, (60, .inl lf))), (q3, .inl (cA, (320, .inl rf))), (q4, .inl (cA, (320, .inl nf))), (q5, .inl (cA, (6, .inl gf))), (o, .inl (cL, (1, .inr (.inl fo))))] := hD
  refine lv_aload_n hx hb dL_law_1121 rfl (lv_at hl 2 rfl) ?_
  refine g_MVi (As := []) (rest := [.int (paI (plain (turnL L0 ++ L1)) 2)]) ⟨hx, hb, hml, hown, hts⟩ (mt_X2_ahead l dC dI cA H.size y0 q1 q2 q3 q4 q5 rn tv sf lf mn rf nf ct il gf (V2 L0 L1) hW hrn hr6 hok) (cwV 0 hts gL_law_X2_ahead rfl rfl rfl hdX2_ahead ⟨Nat.le_of_ble_eq_true rfl, Nat.le_of_ble_eq_true rfl⟩) hP hK hD hS hA [9, 10, 11, 12, 13, 14] (by decide) rfl (va_recv hK hP (ci := 2) (q0 := 9) rfl rfl) rfl hl.1 rfl (Nat.le_of_ble_eq_true rfl) dL_law_1122 hc0 hs0 (fun u9 => [(x0, .inr (1, [.ref r0, .ref r1, .ref r2, .ref r3, .int (nI rn)])), (r0, .inr (0, [.ref a0, .int (nI L0.length)])), (a0, .inl (cA, (100, .inl f0))), (r1, .inr (0, [.ref a1, .int (nI L1.length)])), (a1, .inl (cA, (100, .inl f1))), (r2, .inr (0, [.ref a2, .int m2_1])), (a2, .inl (cA, (100, .inl g2_2))), (r3, .inr (0, [.ref a3, .int m3_3])), (a3, .inl (cA, (100, .inl g3_4))), (y0, .inr (2, [.int 0, .int (nI rn), .ref q1, .ref q2, .int u9.1, .ref q3, .ref q4, .int u9.2.2.2.1, .int u9.2.2.2.2, .ref q5])), (q1, .inl (cA, (2, .inl sf))), (q2, .inl (cA, (60, .inl lf))), (q3, .inl (cA, (320, .inl u9.2.1))), (q4, .inl (cA, (320, .inl u9.2.2.1))), (q5, .inl (cA, (6, .inl gf))), (o, .inl (cL, (1, .inr (.inl fo))))]) (fun _ => rfl) (fun _ => rfl) (fun u H locs hw_11 hP hD hS => ?_)
  obtain ⟨m1_6, r1_7, n1_8, c1_9, i1_10⟩ := u
  have hw_11 : True := hw_11
  have hP : va_P (dC, dI) vwCl [(x0, .inr (1, [.ref r0, .ref r1, .ref r2, .ref r3, .int (nI rn)])), (r0, .inr (0, [.ref a0, .int (nI L0.length)])), (a0, .inl (cA, (100, .inl f0))), (r1, .inr (0, [.ref a1, .int (nI L1.length)])), (a1, .inl (cA, (100, .inl f1))), (r2, .inr (0, [.ref a2, .int m2_1])), (a2, .inl (cA, (100, .inl g2_2))), (r3, .inr (0, [.ref a3, .int m3_3])), (a3, .inl (cA, (100, .inl g3_4))), (y0, .inr (2, [.int 0, .int (nI rn), .ref q1, .ref q2, .int m1_6, .ref q3, .ref q4, .int c1_9, .int i1_10, .ref q5])), (q1, .inl (cA, (2, .inl sf))), (q2, .inl (cA, (60, .inl lf))), (q3, .inl (cA, (320, .inl r1_7))), (q4, .inl (cA, (320, .inl n1_8))), (q5, .inl (cA, (6, .inl gf))), (o, .inl (cL, (1, .inr (.inl fo))))] H := hP
  have hD : va_D A [(x0, .inr (1, [.ref r0, .ref r1, .ref r2, .ref r3, .int (nI rn)])), (r0, .inr (0, [.ref a0, .int (nI L0.length)])), (a0, .inl (cA, (100, .inl f0))), (r1, .inr (0, [.ref a1, .int (nI L1.length)])), (a1, .inl (cA, (100, .inl f1))), (r2, .inr (0, [.ref a2, .int m2_1])), (a2, .inl (cA, (100, .inl g2_2))), (r3, .inr (0, [.ref a3, .int m3_3])), (a3, .inl (cA, (100, .inl g3_4))), (y0, .inr (2, [.int 0, .int (nI rn), .ref q1, .ref q2, .int m1_6, .ref q3, .ref q4, .int c1_9, .int i1_10, .ref q5])), (q1, .inl (cA, (2, .inl sf))), (q2, .inl (cA, (60, .inl lf))), (q3, .inl (cA, (320, .inl r1_7))), (q4, .inl (cA, (320, .inl n1_8))), (q5, .inl (cA, (6, .inl gf))), (o, .inl (cL, (1, .inr (.inl fo))))] := hD
  refine lv_icmp_eq (tgt := 1241) hx hb dL_law_1125 (by decide) (fun c1125 => ?_) (fun c1125 => ?_)
  · exact kk rn L0 L1 _ _ _ _ _ ⟨f0, f1, m2_1, g2_2, m3_3, g3_4, 0, sf, lf, m1_6, r1_7, n1_8, c1_9, i1_10, gf, fo, hP, hD, hS, hR0, hR1, hl0, hl1, hrn, hr6, hk0, hk1, hW⟩ (by omega) (by omega) (lv_sub hl [0, 1, 2, 3, 4] rfl)
  · exact absurd rfl c1125

set_option maxHeartbeats 4000000 in
set_option maxRecDepth 100000 in
theorem lw_op_17 {p : Program} {l : Launch} {e : Env} {s : State} {m : MethodId} {below : List Frame} {meth : Method} {c : Code} {Q : State → Prop} {b L : Nat} {xs : Nat → Int32} {dC : Nat → ClassId} {dI : Nat → Nat → Nat} {cA cL : ClassId} {A : Nat → Prop} (E : lwE p l s m c b L xs dC dI cA cL A) {x0 r0 r1 r2 r3 a0 a1 a2 a3 y0 q1 q2 q3 q4 q5 o : Nat} {i : Nat} (hi : i + 4 ≤ L) {cells slots : Nat} (hC : cells + 1 ≤ 1053) (hS9 : slots + 6 ≤ 9402) {rn : Nat} {L0 L1 : List Int32} {H : Heap} {locs : List Loc} (hI : lwI dC dI cA cL A s.heap x0 r0 r1 r2 r3 a0 a1 a2 a3 y0 q1 q2 q3 q4 q5 o rn L0 L1 H locs) {ls : Array Slot} (hl : lv_has ls 9 [(4, .int (nI i)), (3, .ref o), (2, .ref y0), (1, .ref x0), (0, .ref b)])
    (kk : ∀ (rn : Nat) (L0 L1 : List Int32) (H : Heap) (locs : List Loc) (cells1 slots1 : Nat) (ls : Array Slot), lwI dC dI cA cL A s.heap x0 r0 r1 r2 r3 a0 a1 a2 a3 y0 q1 q2 q3 q4 q5 o rn L0 L1 H locs → cells1 ≤ cells + 1 → slots1 ≤ slots + 6 → lv_has ls 9 [(4, .int (nI i)), (3, .ref o), (2, .ref y0), (1, .ref x0), (0, .ref b)] → W p l e room_1 s m #[Value.ref b] below meth c H locs cells1 slots1 Q (F0 m 1241 ls [])) :
    W p l e room_1 s m #[Value.ref b] below meth c H locs cells slots Q (F0 m 1130 ls []) := by
  obtain ⟨hx, hb, hml, hown, hts, hX, hbl, hbA, hA, htr, hKl, hZ, hL2⟩ := E
  obtain ⟨f0, f1, n2, f2, n3, f3, tv, sf, lf, mn, rf, nf, ct, il, gf, fo, hP, hD, hS, hR0, hR1, hl0, hl1, hrn, hr6, hk0, hk1, hW⟩ := hI
  have hK : va_K (dC, dI) vwCl [(cA, .int)] s := hKl.sub [0] rfl
  have hok := V2_ok hk0 hk1
  have hc0 : cells ≤ room_1.cells := (show cells ≤ 1053 from by omega)
  have hs0 : slots ≤ room_1.slots := (show slots ≤ 9402 from by omega)
  have hc1 : cells + 1 ≤ room_1.cells := hC
  have hs1 : slots + 6 ≤ room_1.slots := hS9
  rcases wd_ix (xs (i + 1)) with hbad | h1 | h1
  · refine lv_aload_n hx hb dL_law_1130 rfl (lv_at hl 3 rfl) ?_
    refine lv_aload_n hx hb dL_law_1131 rfl (lv_at hl 4 rfl) ?_
    refine lv_iload hx hb dL_law_1132 (lv_at hl 0 rfl) ?_
    refine lv_iconst (v := 1) hx hb dL_law_1134 (by decide) ?_
    refine lv_iadd hx hb dL_law_1135 ?_
    rw [show (nI i) + 1 = nI (i + 1) from nI_add i 1]
    refine va_sld hx hb hX hbl hbA hS (vp_in_nI (by omega) (by omega)) dL_law_1136 ?_
    rw [show (nI (i + 1)).toNatClampNeg = i + 1 from nI_clamp (by omega)]
    refine lv_aload_n hx hb dL_law_1137 rfl (lv_at hl 1 rfl) ?_
    refine g_LS (As := [.ref x0, .int (xs (i + 1)), .ref o]) (rest := []) ⟨hx, hb, hml, hown, hts⟩ (mt_L_advise_1 l htr dC dI cA cL H.size x0 (xs (i + 1)) r0 r1 r2 r3 (nI rn) o fo hbad) (vx_cwSW 3 hts gL_law_L_advise rfl rfl rfl hdL_advise ⟨Nat.le_of_ble_eq_true rfl, Nat.le_of_ble_eq_true rfl⟩) hP hKl hD hS hA hZ [0, 15] (by decide) rfl rfl hl.1 rfl (Nat.le_of_ble_eq_true rfl) dL_law_1138 hc1 hs1 (fun u9 => [(x0, .inr (1, [.ref r0, .ref r1, .ref r2, .ref r3, .int (nI rn)])), (r0, .inr (0, [.ref a0, .int (nI L0.length)])), (a0, .inl (cA, (100, .inl f0))), (r1, .inr (0, [.ref a1, .int (nI L1.length)])), (a1, .inl (cA, (100, .inl f1))), (r2, .inr (0, [.ref a2, .int n2])), (a2, .inl (cA, (100, .inl f2))), (r3, .inr (0, [.ref a3, .int n3])), (a3, .inl (cA, (100, .inl f3))), (y0, .inr (2, [.int tv, .int (nI rn), .ref q1, .ref q2, .int mn, .ref q3, .ref q4, .int ct, .int il, .ref q5])), (q1, .inl (cA, (2, .inl sf))), (q2, .inl (cA, (60, .inl lf))), (q3, .inl (cA, (320, .inl rf))), (q4, .inl (cA, (320, .inl nf))), (q5, .inl (cA, (6, .inl gf))), (o, .inl (cL, (1, .inr (.inl fo))))]) (fun _ => rfl) (fun _ => rfl) (fun u H locs hw_1 hP hD hS => ?_)
    have hP : va_P (dC, dI) vwCl [(x0, .inr (1, [.ref r0, .ref r1, .ref r2, .ref r3, .int (nI rn)])), (r0, .inr (0, [.ref a0, .int (nI L0.length)])), (a0, .inl (cA, (100, .inl f0))), (r1, .inr (0, [.ref a1, .int (nI L1.length)])), (a1, .inl (cA, (100, .inl f1))), (r2, .inr (0, [.ref a2, .int n2])), (a2, .inl (cA, (100, .inl f2))), (r3, .inr (0, [.ref a3, .int n3])), (a3, .inl (cA, (100, .inl f3))), (y0, .inr (2, [.int tv, .int (nI rn), .ref q1, .ref q2, .int mn, .ref q3, .ref q4, .int ct, .int il, .ref q5])), (q1, .inl (cA, (2, .inl sf))), (q2, .inl (cA, (60, .inl lf))), (q3, .inl (cA, (320, .inl rf))), (q4, .inl (cA, (320, .inl nf))), (q5, .inl (cA, (6, .inl gf))), (o, .inl (cL, (1, .inr (.inl fo))))] H := hP
    have hD : va_D A [(x0, .inr (1, [.ref r0, .ref r1, .ref r2, .ref r3, .int (nI rn)])), (r0, .inr (0, [.ref a0, .int (nI L0.length)])), (a0, .inl (cA, (100, .inl f0))), (r1, .inr (0, [.ref a1, .int (nI L1.length)])), (a1, .inl (cA, (100, .inl f1))), (r2, .inr (0, [.ref a2, .int n2])), (a2, .inl (cA, (100, .inl f2))), (r3, .inr (0, [.ref a3, .int n3])), (a3, .inl (cA, (100, .inl f3))), (y0, .inr (2, [.int tv, .int (nI rn), .ref q1, .ref q2, .int mn, .ref q3, .ref q4, .int ct, .int il, .ref q5])), (q1, .inl (cA, (2, .inl sf))), (q2, .inl (cA, (60, .inl lf))), (q3, .inl (cA, (320, .inl rf))), (q4, .inl (cA, (320, .inl nf))), (q5, .inl (cA, (6, .inl gf))), (o, .inl (cL, (1, .inr (.inl fo))))] := hD
    refine lv_istore (lv' := [(5, .int 1), (4, .int (nI i)), (3, .ref o), (2, .ref y0), (1, .ref x0), (0, .ref b)]) hx hb dL_law_1141 hl (by decide) rfl (fun ls hl => ?_)
    refine lv_aload_n hx hb dL_law_1143 rfl (lv_at hl 3 rfl) ?_
    refine lv_aload_n hx hb dL_law_1144 rfl (lv_at hl 5 rfl) ?_
    refine lv_iload hx hb dL_law_1145 (lv_at hl 1 rfl) ?_
    refine lv_iconst (v := 1) hx hb dL_law_1147 (by decide) ?_
    refine lv_iadd hx hb dL_law_1148 ?_
    rw [show (nI i) + 1 = nI (i + 1) from nI_add i 1]
    refine va_sld hx hb hX hbl hbA hS (vp_in_nI (by omega) (by omega)) dL_law_1149 ?_
    rw [show (nI (i + 1)).toNatClampNeg = i + 1 from nI_clamp (by omega)]
    refine g_MVi (As := [.int (xs (i + 1))]) (rest := []) ⟨hx, hb, hml, hown, hts⟩ (mt_X2_advise_1 l dC dI cA H.size y0 q1 q2 q3 q4 q5 rn tv sf lf mn rf nf ct il gf (xs (i + 1)) hbad) (cwV 1 hts gL_law_X2_advise rfl rfl rfl hdX2_advise ⟨Nat.le_of_ble_eq_true rfl, Nat.le_of_ble_eq_true rfl⟩) hP hK hD hS hA [9, 10, 11, 12, 13, 14] (by decide) rfl (va_recv hK hP (ci := 2) (q0 := 9) rfl rfl) rfl hl.1 rfl (Nat.le_of_ble_eq_true rfl) dL_law_1150 hc1 hs1 (fun u9 => [(x0, .inr (1, [.ref r0, .ref r1, .ref r2, .ref r3, .int (nI rn)])), (r0, .inr (0, [.ref a0, .int (nI L0.length)])), (a0, .inl (cA, (100, .inl f0))), (r1, .inr (0, [.ref a1, .int (nI L1.length)])), (a1, .inl (cA, (100, .inl f1))), (r2, .inr (0, [.ref a2, .int n2])), (a2, .inl (cA, (100, .inl f2))), (r3, .inr (0, [.ref a3, .int n3])), (a3, .inl (cA, (100, .inl f3))), (y0, .inr (2, [.int 1, .int (nI rn), .ref q1, .ref q2, .int mn, .ref q3, .ref q4, .int ct, .int il, .ref q5])), (q1, .inl (cA, (2, .inl sf))), (q2, .inl (cA, (60, .inl lf))), (q3, .inl (cA, (320, .inl rf))), (q4, .inl (cA, (320, .inl nf))), (q5, .inl (cA, (6, .inl gf))), (o, .inl (cL, (1, .inr (.inl fo))))]) (fun _ => rfl) (fun _ => rfl) (fun u H locs hw_2 hP hD hS => ?_)
    have hw_2 : True := hw_2
    have hP : va_P (dC, dI) vwCl [(x0, .inr (1, [.ref r0, .ref r1, .ref r2, .ref r3, .int (nI rn)])), (r0, .inr (0, [.ref a0, .int (nI L0.length)])), (a0, .inl (cA, (100, .inl f0))), (r1, .inr (0, [.ref a1, .int (nI L1.length)])), (a1, .inl (cA, (100, .inl f1))), (r2, .inr (0, [.ref a2, .int n2])), (a2, .inl (cA, (100, .inl f2))), (r3, .inr (0, [.ref a3, .int n3])), (a3, .inl (cA, (100, .inl f3))), (y0, .inr (2, [.int 1, .int (nI rn), .ref q1, .ref q2, .int mn, .ref q3, .ref q4, .int ct, .int il, .ref q5])), (q1, .inl (cA, (2, .inl sf))), (q2, .inl (cA, (60, .inl lf))), (q3, .inl (cA, (320, .inl rf))), (q4, .inl (cA, (320, .inl nf))), (q5, .inl (cA, (6, .inl gf))), (o, .inl (cL, (1, .inr (.inl fo))))] H := hP
    have hD : va_D A [(x0, .inr (1, [.ref r0, .ref r1, .ref r2, .ref r3, .int (nI rn)])), (r0, .inr (0, [.ref a0, .int (nI L0.length)])), (a0, .inl (cA, (100, .inl f0))), (r1, .inr (0, [.ref a1, .int (nI L1.length)])), (a1, .inl (cA, (100, .inl f1))), (r2, .inr (0, [.ref a2, .int n2])), (a2, .inl (cA, (100, .inl f2))), (r3, .inr (0, [.ref a3, .int n3])), (a3, .inl (cA, (100, .inl f3))), (y0, .inr (2, [.int 1, .int (nI rn), .ref q1, .ref q2, .int mn, .ref q3, .ref q4, .int ct, .int il, .ref q5])), (q1, .inl (cA, (2, .inl sf))), (q2, .inl (cA, (60, .inl lf))), (q3, .inl (cA, (320, .inl rf))), (q4, .inl (cA, (320, .inl nf))), (q5, .inl (cA, (6, .inl gf))), (o, .inl (cL, (1, .inr (.inl fo))))] := hD
    refine lv_istore (lv' := [(6, .int 0), (5, .int 1), (4, .int (nI i)), (3, .ref o), (2, .ref y0), (1, .ref x0), (0, .ref b)]) hx hb dL_law_1153 hl (by decide) rfl (fun ls hl => ?_)
    refine lv_aload_n hx hb dL_law_1155 rfl (lv_at hl 4 rfl) ?_
    refine g_RVi (As := []) (rest := []) ⟨hx, hb, hml, hown, hts⟩ (mt_X2_thrown l dC dI cA H.size y0 q1 q2 q3 q4 q5 rn 1 sf lf mn rf nf ct il gf) (cwV 0 hts gL_law_X2_thrown rfl rfl rfl hdX2_thrown ⟨Nat.le_of_ble_eq_true rfl, Nat.le_of_ble_eq_true rfl⟩) hP hK hD [9, 10, 11, 12, 13, 14] (by decide) rfl (va_recv hK hP (ci := 2) (q0 := 9) rfl rfl) rfl hl.1 rfl (Nat.le_of_ble_eq_true rfl) dL_law_1156 hc1 hs1 ?_
    refine lv_iload hx hb dL_law_1159 (lv_at hl 1 rfl) ?_
    refine lv_icmp_eq (tgt := 1166) hx hb dL_law_1161 (by decide) (fun c1161 => ?_) (fun c1161 => ?_)
    · refine lv_iload hx hb dL_law_1166 (lv_at hl 1 rfl) ?_
      refine lv_if_ne (tgt := 1183) hx hb dL_law_1168 (by decide) (fun c1168 => ?_) (fun c1168 => ?_)
      · have c1168 : ¬ 1 = 0 := g_neT 1 0 (by omega) (by omega) c1168
        refine lv_goto (tgt := 1241) hx hb dL_law_1183 (by decide) ?_
        exact kk rn L0 L1 _ _ _ _ _ ⟨f0, f1, n2, f2, n3, f3, 1, sf, lf, mn, rf, nf, ct, il, gf, fo, hP, hD, hS, hR0, hR1, hl0, hl1, hrn, hr6, hk0, hk1, hW⟩ (by omega) (by omega) (lv_sub hl [2, 3, 4, 5, 6] rfl)
      · exact absurd c1168 (by decide)
    · exact absurd (by decide) c1161
  · rcases hpl : plain L0 with _ | zz
    · refine lv_aload_n hx hb dL_law_1130 rfl (lv_at hl 3 rfl) ?_
      refine lv_aload_n hx hb dL_law_1131 rfl (lv_at hl 4 rfl) ?_
      refine lv_iload hx hb dL_law_1132 (lv_at hl 0 rfl) ?_
      refine lv_iconst (v := 1) hx hb dL_law_1134 (by decide) ?_
      refine lv_iadd hx hb dL_law_1135 ?_
      rw [show (nI i) + 1 = nI (i + 1) from nI_add i 1]
      refine va_sld hx hb hX hbl hbA hS (vp_in_nI (by omega) (by omega)) dL_law_1136 ?_
      rw [show (nI (i + 1)).toNatClampNeg = i + 1 from nI_clamp (by omega)]
      rw [h1]
      refine lv_aload_n hx hb dL_law_1137 rfl (lv_at hl 1 rfl) ?_
      refine g_LS (As := [.ref x0, .int (nI 0), .ref o]) (rest := []) ⟨hx, hb, hml, hown, hts⟩ (mt_L_advise_2_0 l htr dC dI cA cL H.size x0 r0 r1 r2 r3 rn a0 L0 f0 a2 n2 f2 a3 n3 f3 o fo hR0 hpl) (vx_cwSW 3 hts gL_law_L_advise rfl rfl rfl hdL_advise ⟨Nat.le_of_ble_eq_true rfl, Nat.le_of_ble_eq_true rfl⟩) hP hKl hD hS hA hZ [0, 1, 2, 5, 6, 7, 8, 15] (by decide) rfl rfl hl.1 rfl (Nat.le_of_ble_eq_true rfl) dL_law_1138 hc1 hs1 (fun u9 => [(x0, .inr (1, [.ref r0, .ref r1, .ref r2, .ref r3, .int (nI rn)])), (r0, .inr (0, [.ref a0, .int (nI L0.length)])), (a0, .inl (cA, (100, .inl f0))), (r1, .inr (0, [.ref a1, .int (nI L1.length)])), (a1, .inl (cA, (100, .inl f1))), (r2, .inr (0, [.ref a2, .int u9.1])), (a2, .inl (cA, (100, .inl u9.2.1))), (r3, .inr (0, [.ref a3, .int u9.2.2.1])), (a3, .inl (cA, (100, .inl u9.2.2.2))), (y0, .inr (2, [.int tv, .int (nI rn), .ref q1, .ref q2, .int mn, .ref q3, .ref q4, .int ct, .int il, .ref q5])), (q1, .inl (cA, (2, .inl sf))), (q2, .inl (cA, (60, .inl lf))), (q3, .inl (cA, (320, .inl rf))), (q4, .inl (cA, (320, .inl nf))), (q5, .inl (cA, (6, .inl gf))), (o, .inl (cL, (1, .inr (.inl fo))))]) (fun _ => rfl) (fun _ => rfl) (fun u H locs hw_5 hP hD hS => ?_)
      obtain ⟨m2_1, g2_2, m3_3, g3_4⟩ := u
      have hw_5 : True := hw_5
      have hP : va_P (dC, dI) vwCl [(x0, .inr (1, [.ref r0, .ref r1, .ref r2, .ref r3, .int (nI rn)])), (r0, .inr (0, [.ref a0, .int (nI L0.length)])), (a0, .inl (cA, (100, .inl f0))), (r1, .inr (0, [.ref a1, .int (nI L1.length)])), (a1, .inl (cA, (100, .inl f1))), (r2, .inr (0, [.ref a2, .int m2_1])), (a2, .inl (cA, (100, .inl g2_2))), (r3, .inr (0, [.ref a3, .int m3_3])), (a3, .inl (cA, (100, .inl g3_4))), (y0, .inr (2, [.int tv, .int (nI rn), .ref q1, .ref q2, .int mn, .ref q3, .ref q4, .int ct, .int il, .ref q5])), (q1, .inl (cA, (2, .inl sf))), (q2, .inl (cA, (60, .inl lf))), (q3, .inl (cA, (320, .inl rf))), (q4, .inl (cA, (320, .inl nf))), (q5, .inl (cA, (6, .inl gf))), (o, .inl (cL, (1, .inr (.inl fo))))] H := hP
      have hD : va_D A [(x0, .inr (1, [.ref r0, .ref r1, .ref r2, .ref r3, .int (nI rn)])), (r0, .inr (0, [.ref a0, .int (nI L0.length)])), (a0, .inl (cA, (100, .inl f0))), (r1, .inr (0, [.ref a1, .int (nI L1.length)])), (a1, .inl (cA, (100, .inl f1))), (r2, .inr (0, [.ref a2, .int m2_1])), (a2, .inl (cA, (100, .inl g2_2))), (r3, .inr (0, [.ref a3, .int m3_3])), (a3, .inl (cA, (100, .inl g3_4))), (y0, .inr (2, [.int tv, .int (nI rn), .ref q1, .ref q2, .int mn, .ref q3, .ref q4, .int ct, .int il, .ref q5])), (q1, .inl (cA, (2, .inl sf))), (q2, .inl (cA, (60, .inl lf))), (q3, .inl (cA, (320, .inl rf))), (q4, .inl (cA, (320, .inl nf))), (q5, .inl (cA, (6, .inl gf))), (o, .inl (cL, (1, .inr (.inl fo))))] := hD
      refine lv_istore (lv' := [(5, .int 2), (4, .int (nI i)), (3, .ref o), (2, .ref y0), (1, .ref x0), (0, .ref b)]) hx hb dL_law_1141 hl (by decide) rfl (fun ls hl => ?_)
      refine lv_aload_n hx hb dL_law_1143 rfl (lv_at hl 3 rfl) ?_
      refine lv_aload_n hx hb dL_law_1144 rfl (lv_at hl 5 rfl) ?_
      refine lv_iload hx hb dL_law_1145 (lv_at hl 1 rfl) ?_
      refine lv_iconst (v := 1) hx hb dL_law_1147 (by decide) ?_
      refine lv_iadd hx hb dL_law_1148 ?_
      rw [show (nI i) + 1 = nI (i + 1) from nI_add i 1]
      refine va_sld hx hb hX hbl hbA hS (vp_in_nI (by omega) (by omega)) dL_law_1149 ?_
      rw [show (nI (i + 1)).toNatClampNeg = i + 1 from nI_clamp (by omega)]
      rw [h1]
      refine g_MVi (As := [.int (nI 0)]) (rest := []) ⟨hx, hb, hml, hown, hts⟩ (mt_X2_advise_2 l dC dI cA H.size y0 q1 q2 q3 q4 q5 rn tv sf lf mn rf nf ct il gf (V2 L0 L1) 0 hW hrn hr6 hok (by omega) hpl) (cwV 1 hts gL_law_X2_advise rfl rfl rfl hdX2_advise ⟨Nat.le_of_ble_eq_true rfl, Nat.le_of_ble_eq_true rfl⟩) hP hK hD hS hA [9, 10, 11, 12, 13, 14] (by decide) rfl (va_recv hK hP (ci := 2) (q0 := 9) rfl rfl) rfl hl.1 rfl (Nat.le_of_ble_eq_true rfl) dL_law_1150 hc1 hs1 (fun u9 => [(x0, .inr (1, [.ref r0, .ref r1, .ref r2, .ref r3, .int (nI rn)])), (r0, .inr (0, [.ref a0, .int (nI L0.length)])), (a0, .inl (cA, (100, .inl f0))), (r1, .inr (0, [.ref a1, .int (nI L1.length)])), (a1, .inl (cA, (100, .inl f1))), (r2, .inr (0, [.ref a2, .int m2_1])), (a2, .inl (cA, (100, .inl g2_2))), (r3, .inr (0, [.ref a3, .int m3_3])), (a3, .inl (cA, (100, .inl g3_4))), (y0, .inr (2, [.int 2, .int (nI rn), .ref q1, .ref q2, .int u9.1, .ref q3, .ref q4, .int u9.2.2.2.1, .int u9.2.2.2.2, .ref q5])), (q1, .inl (cA, (2, .inl sf))), (q2, .inl (cA, (60, .inl lf))), (q3, .inl (cA, (320, .inl u9.2.1))), (q4, .inl (cA, (320, .inl u9.2.2.1))), (q5, .inl (cA, (6, .inl gf))), (o, .inl (cL, (1, .inr (.inl fo))))]) (fun _ => rfl) (fun _ => rfl) (fun u H locs hw_11 hP hD hS => ?_)
      obtain ⟨m1_6, r1_7, n1_8, c1_9, i1_10⟩ := u
      have hw_11 : True := hw_11
      have hP : va_P (dC, dI) vwCl [(x0, .inr (1, [.ref r0, .ref r1, .ref r2, .ref r3, .int (nI rn)])), (r0, .inr (0, [.ref a0, .int (nI L0.length)])), (a0, .inl (cA, (100, .inl f0))), (r1, .inr (0, [.ref a1, .int (nI L1.length)])), (a1, .inl (cA, (100, .inl f1))), (r2, .inr (0, [.ref a2, .int m2_1])), (a2, .inl (cA, (100, .inl g2_2))), (r3, .inr (0, [.ref a3, .int m3_3])), (a3, .inl (cA, (100, .inl g3_4))), (y0, .inr (2, [.int 2, .int (nI rn), .ref q1, .ref q2, .int m1_6, .ref q3, .ref q4, .int c1_9, .int i1_10, .ref q5])), (q1, .inl (cA, (2, .inl sf))), (q2, .inl (cA, (60, .inl lf))), (q3, .inl (cA, (320, .inl r1_7))), (q4, .inl (cA, (320, .inl n1_8))), (q5, .inl (cA, (6, .inl gf))), (o, .inl (cL, (1, .inr (.inl fo))))] H := hP
      have hD : va_D A [(x0, .inr (1, [.ref r0, .ref r1, .ref r2, .ref r3, .int (nI rn)])), (r0, .inr (0, [.ref a0, .int (nI L0.length)])), (a0, .inl (cA, (100, .inl f0))), (r1, .inr (0, [.ref a1, .int (nI L1.length)])), (a1, .inl (cA, (100, .inl f1))), (r2, .inr (0, [.ref a2, .int m2_1])), (a2, .inl (cA, (100, .inl g2_2))), (r3, .inr (0, [.ref a3, .int m3_3])), (a3, .inl (cA, (100, .inl g3_4))), (y0, .inr (2, [.int 2, .int (nI rn), .ref q1, .ref q2, .int m1_6, .ref q3, .ref q4, .int c1_9, .int i1_10, .ref q5])), (q1, .inl (cA, (2, .inl sf))), (q2, .inl (cA, (60, .inl lf))), (q3, .inl (cA, (320, .inl r1_7))), (q4, .inl (cA, (320, .inl n1_8))), (q5, .inl (cA, (6, .inl gf))), (o, .inl (cL, (1, .inr (.inl fo))))] := hD
      refine lv_istore (lv' := [(6, .int 0), (5, .int 2), (4, .int (nI i)), (3, .ref o), (2, .ref y0), (1, .ref x0), (0, .ref b)]) hx hb dL_law_1153 hl (by decide) rfl (fun ls hl => ?_)
      refine lv_aload_n hx hb dL_law_1155 rfl (lv_at hl 4 rfl) ?_
      refine g_RVi (As := []) (rest := []) ⟨hx, hb, hml, hown, hts⟩ (mt_X2_thrown l dC dI cA H.size y0 q1 q2 q3 q4 q5 rn 2 sf lf m1_6 r1_7 n1_8 c1_9 i1_10 gf) (cwV 0 hts gL_law_X2_thrown rfl rfl rfl hdX2_thrown ⟨Nat.le_of_ble_eq_true rfl, Nat.le_of_ble_eq_true rfl⟩) hP hK hD [9, 10, 11, 12, 13, 14] (by decide) rfl (va_recv hK hP (ci := 2) (q0 := 9) rfl rfl) rfl hl.1 rfl (Nat.le_of_ble_eq_true rfl) dL_law_1156 hc1 hs1 ?_
      refine lv_iload hx hb dL_law_1159 (lv_at hl 1 rfl) ?_
      refine lv_icmp_eq (tgt := 1166) hx hb dL_law_1161 (by decide) (fun c1161 => ?_) (fun c1161 => ?_)
      · refine lv_iload hx hb dL_law_1166 (lv_at hl 1 rfl) ?_
        refine lv_if_ne (tgt := 1183) hx hb dL_law_1168 (by decide) (fun c1168 => ?_) (fun c1168 => ?_)
        · have c1168 : ¬ 2 = 0 := g_neT 2 0 (by omega) (by omega) c1168
          refine lv_goto (tgt := 1241) hx hb dL_law_1183 (by decide) ?_
          exact kk rn L0 L1 _ _ _ _ _ ⟨f0, f1, m2_1, g2_2, m3_3, g3_4, 2, sf, lf, m1_6, r1_7, n1_8, c1_9, i1_10, gf, fo, hP, hD, hS, hR0, hR1, hl0, hl1, hrn, hr6, hk0, hk1, hW⟩ (by omega) (by omega) (lv_sub hl [2, 3, 4, 5, 6] rfl)
        · exact absurd c1168 (by decide)
      · exact absurd (by decide) c1161
    · refine lv_aload_n hx hb dL_law_1130 rfl (lv_at hl 3 rfl) ?_
      refine lv_aload_n hx hb dL_law_1131 rfl (lv_at hl 4 rfl) ?_
      refine lv_iload hx hb dL_law_1132 (lv_at hl 0 rfl) ?_
      refine lv_iconst (v := 1) hx hb dL_law_1134 (by decide) ?_
      refine lv_iadd hx hb dL_law_1135 ?_
      rw [show (nI i) + 1 = nI (i + 1) from nI_add i 1]
      refine va_sld hx hb hX hbl hbA hS (vp_in_nI (by omega) (by omega)) dL_law_1136 ?_
      rw [show (nI (i + 1)).toNatClampNeg = i + 1 from nI_clamp (by omega)]
      rw [h1]
      refine lv_aload_n hx hb dL_law_1137 rfl (lv_at hl 1 rfl) ?_
      refine g_LS (As := [.ref x0, .int (nI 0), .ref o]) (rest := []) ⟨hx, hb, hml, hown, hts⟩ (mt_L_advise0 l htr dC dI cA cL H.size x0 r0 r1 r2 r3 rn a0 L0 f0 a2 n2 f2 a3 n3 f3 zz o fo hR0 hpl hl0 (Nat.le_trans (by decide) (rn_3 rn hrn)) hr6) (vx_cwSW 3 hts gL_law_L_advise rfl rfl rfl hdL_advise ⟨Nat.le_of_ble_eq_true rfl, Nat.le_of_ble_eq_true rfl⟩) hP hKl hD hS hA hZ [0, 1, 2, 5, 6, 7, 8, 15] (by decide) rfl rfl hl.1 rfl (Nat.le_of_ble_eq_true rfl) dL_law_1138 hc0 hs0 (fun u9 => [(x0, .inr (1, [.ref r0, .ref r1, .ref r2, .ref r3, .int (nI rn)])), (r0, .inr (0, [.ref a0, .int (nI L0.length)])), (a0, .inl (cA, (100, .inl f0))), (r1, .inr (0, [.ref a1, .int (nI L1.length)])), (a1, .inl (cA, (100, .inl f1))), (r2, .inr (0, [.ref a2, .int u9.1])), (a2, .inl (cA, (100, .inl u9.2.1))), (r3, .inr (0, [.ref a3, .int u9.2.2.1])), (a3, .inl (cA, (100, .inl u9.2.2.2))), (y0, .inr (2, [.int tv, .int (nI rn), .ref q1, .ref q2, .int mn, .ref q3, .ref q4, .int ct, .int il, .ref q5])), (q1, .inl (cA, (2, .inl sf))), (q2, .inl (cA, (60, .inl lf))), (q3, .inl (cA, (320, .inl rf))), (q4, .inl (cA, (320, .inl nf))), (q5, .inl (cA, (6, .inl gf))), (o, .inl (cL, (1, .inr (.inl (vp_updL fo 0 ((adH L0 (nI zz.2.length) (rn - 1)).1).toInt64)))))]) (fun _ => rfl) (fun _ => rfl) (fun u H locs hw_5 hP hD hS => ?_)
      obtain ⟨m2_1, g2_2, m3_3, g3_4⟩ := u
      have hw_5 : True := hw_5
      have hP : va_P (dC, dI) vwCl [(x0, .inr (1, [.ref r0, .ref r1, .ref r2, .ref r3, .int (nI rn)])), (r0, .inr (0, [.ref a0, .int (nI L0.length)])), (a0, .inl (cA, (100, .inl f0))), (r1, .inr (0, [.ref a1, .int (nI L1.length)])), (a1, .inl (cA, (100, .inl f1))), (r2, .inr (0, [.ref a2, .int m2_1])), (a2, .inl (cA, (100, .inl g2_2))), (r3, .inr (0, [.ref a3, .int m3_3])), (a3, .inl (cA, (100, .inl g3_4))), (y0, .inr (2, [.int tv, .int (nI rn), .ref q1, .ref q2, .int mn, .ref q3, .ref q4, .int ct, .int il, .ref q5])), (q1, .inl (cA, (2, .inl sf))), (q2, .inl (cA, (60, .inl lf))), (q3, .inl (cA, (320, .inl rf))), (q4, .inl (cA, (320, .inl nf))), (q5, .inl (cA, (6, .inl gf))), (o, .inl (cL, (1, .inr (.inl (vp_updL fo 0 ((adH L0 (nI zz.2.length) (rn - 1)).1).toInt64)))))] H := hP
      have hD : va_D A [(x0, .inr (1, [.ref r0, .ref r1, .ref r2, .ref r3, .int (nI rn)])), (r0, .inr (0, [.ref a0, .int (nI L0.length)])), (a0, .inl (cA, (100, .inl f0))), (r1, .inr (0, [.ref a1, .int (nI L1.length)])), (a1, .inl (cA, (100, .inl f1))), (r2, .inr (0, [.ref a2, .int m2_1])), (a2, .inl (cA, (100, .inl g2_2))), (r3, .inr (0, [.ref a3, .int m3_3])), (a3, .inl (cA, (100, .inl g3_4))), (y0, .inr (2, [.int tv, .int (nI rn), .ref q1, .ref q2, .int mn, .ref q3, .ref q4, .int ct, .int il, .ref q5])), (q1, .inl (cA, (2, .inl sf))), (q2, .inl (cA, (60, .inl lf))), (q3, .inl (cA, (320, .inl rf))), (q4, .inl (cA, (320, .inl nf))), (q5, .inl (cA, (6, .inl gf))), (o, .inl (cL, (1, .inr (.inl (vp_updL fo 0 ((adH L0 (nI zz.2.length) (rn - 1)).1).toInt64)))))] := hD
      refine lv_istore (lv' := [(5, .int 0), (4, .int (nI i)), (3, .ref o), (2, .ref y0), (1, .ref x0), (0, .ref b)]) hx hb dL_law_1141 hl (by decide) rfl (fun ls hl => ?_)
      refine lv_aload_n hx hb dL_law_1143 rfl (lv_at hl 3 rfl) ?_
      refine lv_aload_n hx hb dL_law_1144 rfl (lv_at hl 5 rfl) ?_
      refine lv_iload hx hb dL_law_1145 (lv_at hl 1 rfl) ?_
      refine lv_iconst (v := 1) hx hb dL_law_1147 (by decide) ?_
      refine lv_iadd hx hb dL_law_1148 ?_
      rw [show (nI i) + 1 = nI (i + 1) from nI_add i 1]
      refine va_sld hx hb hX hbl hbA hS (vp_in_nI (by omega) (by omega)) dL_law_1149 ?_
      rw [show (nI (i + 1)).toNatClampNeg = i + 1 from nI_clamp (by omega)]
      rw [h1]
      refine g_MVi (As := [.int (nI 0)]) (rest := []) ⟨hx, hb, hml, hown, hts⟩ (mt_X2_advise l dC dI cA H.size y0 q1 q2 q3 q4 q5 rn tv sf lf mn rf nf ct il gf (V2 L0 L1) 0 zz hW hrn hr6 hok (by omega) hpl) (cwV 1 hts gL_law_X2_advise rfl rfl rfl hdX2_advise ⟨Nat.le_of_ble_eq_true rfl, Nat.le_of_ble_eq_true rfl⟩) hP hK hD hS hA [9, 10, 11, 12, 13, 14] (by decide) rfl (va_recv hK hP (ci := 2) (q0 := 9) rfl rfl) rfl hl.1 rfl (Nat.le_of_ble_eq_true rfl) dL_law_1150 hc0 hs0 (fun u9 => [(x0, .inr (1, [.ref r0, .ref r1, .ref r2, .ref r3, .int (nI rn)])), (r0, .inr (0, [.ref a0, .int (nI L0.length)])), (a0, .inl (cA, (100, .inl f0))), (r1, .inr (0, [.ref a1, .int (nI L1.length)])), (a1, .inl (cA, (100, .inl f1))), (r2, .inr (0, [.ref a2, .int m2_1])), (a2, .inl (cA, (100, .inl g2_2))), (r3, .inr (0, [.ref a3, .int m3_3])), (a3, .inl (cA, (100, .inl g3_4))), (y0, .inr (2, [.int 0, .int (nI rn), .ref q1, .ref q2, .int u9.1, .ref q3, .ref q4, .int u9.2.2.2.1, .int u9.2.2.2.2, .ref q5])), (q1, .inl (cA, (2, .inl sf))), (q2, .inl (cA, (60, .inl lf))), (q3, .inl (cA, (320, .inl u9.2.1))), (q4, .inl (cA, (320, .inl u9.2.2.1))), (q5, .inl (cA, (6, .inl gf))), (o, .inl (cL, (1, .inr (.inl (vp_updL fo 0 ((adH L0 (nI zz.2.length) (rn - 1)).1).toInt64)))))]) (fun _ => rfl) (fun _ => rfl) (fun u H locs hw_11 hP hD hS => ?_)
      obtain ⟨m1_6, r1_7, n1_8, c1_9, i1_10⟩ := u
      have hw_11 : True := hw_11
      have hP : va_P (dC, dI) vwCl [(x0, .inr (1, [.ref r0, .ref r1, .ref r2, .ref r3, .int (nI rn)])), (r0, .inr (0, [.ref a0, .int (nI L0.length)])), (a0, .inl (cA, (100, .inl f0))), (r1, .inr (0, [.ref a1, .int (nI L1.length)])), (a1, .inl (cA, (100, .inl f1))), (r2, .inr (0, [.ref a2, .int m2_1])), (a2, .inl (cA, (100, .inl g2_2))), (r3, .inr (0, [.ref a3, .int m3_3])), (a3, .inl (cA, (100, .inl g3_4))), (y0, .inr (2, [.int 0, .int (nI rn), .ref q1, .ref q2, .int m1_6, .ref q3, .ref q4, .int c1_9, .int i1_10, .ref q5])), (q1, .inl (cA, (2, .inl sf))), (q2, .inl (cA, (60, .inl lf))), (q3, .inl (cA, (320, .inl r1_7))), (q4, .inl (cA, (320, .inl n1_8))), (q5, .inl (cA, (6, .inl gf))), (o, .inl (cL, (1, .inr (.inl (vp_updL fo 0 ((adH L0 (nI zz.2.length) (rn - 1)).1).toInt64)))))] H := hP
      have hD : va_D A [(x0, .inr (1, [.ref r0, .ref r1, .ref r2, .ref r3, .int (nI rn)])), (r0, .inr (0, [.ref a0, .int (nI L0.length)])), (a0, .inl (cA, (100, .inl f0))), (r1, .inr (0, [.ref a1, .int (nI L1.length)])), (a1, .inl (cA, (100, .inl f1))), (r2, .inr (0, [.ref a2, .int m2_1])), (a2, .inl (cA, (100, .inl g2_2))), (r3, .inr (0, [.ref a3, .int m3_3])), (a3, .inl (cA, (100, .inl g3_4))), (y0, .inr (2, [.int 0, .int (nI rn), .ref q1, .ref q2, .int m1_6, .ref q3, .ref q4, .int c1_9, .int i1_10, .ref q5])), (q1, .inl (cA, (2, .inl sf))), (q2, .inl (cA, (60, .inl lf))), (q3, .inl (cA, (320, .inl r1_7))), (q4, .inl (cA, (320, .inl n1_8))), (q5, .inl (cA, (6, .inl gf))), (o, .inl (cL, (1, .inr (.inl (vp_updL fo 0 ((adH L0 (nI zz.2.length) (rn - 1)).1).toInt64)))))] := hD
      refine lv_istore (lv' := [(6, .int ((adH ((V2 L0 L1) 0) (nI zz.2.length) (rn - 1)).1)), (5, .int 0), (4, .int (nI i)), (3, .ref o), (2, .ref y0), (1, .ref x0), (0, .ref b)]) hx hb dL_law_1153 hl (by decide) rfl (fun ls hl => ?_)
      refine lv_aload_n hx hb dL_law_1155 rfl (lv_at hl 4 rfl) ?_
      refine g_RVi (As := []) (rest := []) ⟨hx, hb, hml, hown, hts⟩ (mt_X2_thrown l dC dI cA H.size y0 q1 q2 q3 q4 q5 rn 0 sf lf m1_6 r1_7 n1_8 c1_9 i1_10 gf) (cwV 0 hts gL_law_X2_thrown rfl rfl rfl hdX2_thrown ⟨Nat.le_of_ble_eq_true rfl, Nat.le_of_ble_eq_true rfl⟩) hP hK hD [9, 10, 11, 12, 13, 14] (by decide) rfl (va_recv hK hP (ci := 2) (q0 := 9) rfl rfl) rfl hl.1 rfl (Nat.le_of_ble_eq_true rfl) dL_law_1156 hc0 hs0 ?_
      refine lv_iload hx hb dL_law_1159 (lv_at hl 1 rfl) ?_
      refine lv_icmp_eq (tgt := 1166) hx hb dL_law_1161 (by decide) (fun c1161 => ?_) (fun c1161 => ?_)
      · refine lv_iload hx hb dL_law_1166 (lv_at hl 1 rfl) ?_
        refine lv_if_ne (tgt := 1183) hx hb dL_law_1168 (by decide) (fun c1168 => ?_) (fun c1168 => ?_)
        · exact absurd (by decide) c1168
        · have c1168 : 0 = 0 := g_neF 0 0 (by omega) (by omega) c1168
          refine lv_aload_n hx hb dL_law_1171 rfl (lv_at hl 3 rfl) ?_
          refine lv_iconst (v := 0) hx hb dL_law_1172 (by decide) ?_
          refine va_lald hx hb hKl hP 15 1 rfl rfl (vp_in_nI (n := 0) (by omega) (by decide)) dL_law_1173 ?_
          rw [show (0 : Int32).toNatClampNeg = 0 from by decide, pk_uLs]
          refine lv_iload hx hb dL_law_1174 (lv_at hl 0 rfl) ?_
          refine lv_i2l (v := ((adH ((V2 L0 L1) 0) (nI zz.2.length) (rn - 1)).1).toInt64) hx hb dL_law_1176 rfl ?_
          refine W.lcmp hx hb dL_law_1177 ?_
          rw [show lg_cmp (((adH L0 (nI zz.2.length) (rn - 1)).1).toInt64) (((adH ((V2 L0 L1) 0) (nI zz.2.length) (rn - 1)).1).toInt64) = 0 from (lg_cmp_eq _ _).mpr rfl]
          refine lv_if_eq (tgt := 1183) hx hb dL_law_1178 (by decide) (fun c1178 => ?_) (fun c1178 => ?_)
          · have c1178 : 0 = 0 := g_eqT 0 0 (by omega) (by omega) c1178
            refine lv_goto (tgt := 1241) hx hb dL_law_1183 (by decide) ?_
            exact kk rn L0 L1 _ _ _ _ _ ⟨f0, f1, m2_1, g2_2, m3_3, g3_4, 0, sf, lf, m1_6, r1_7, n1_8, c1_9, i1_10, gf, vp_updL fo 0 ((adH L0 (nI zz.2.length) (rn - 1)).1).toInt64, hP, hD, hS, hR0, hR1, hl0, hl1, hrn, hr6, hk0, hk1, hW⟩ (by omega) (by omega) (lv_sub hl [2, 3, 4, 5, 6] rfl)
          · exact absurd (by decide) c1178
      · exact absurd (by decide) c1161
  · rcases hpl : plain L1 with _ | zz
    · refine lv_aload_n hx hb dL_law_1130 rfl (lv_at hl 3 rfl) ?_
      refine lv_aload_n hx hb dL_law_1131 rfl (lv_at hl 4 rfl) ?_
      refine lv_iload hx hb dL_law_1132 (lv_at hl 0 rfl) ?_
      refine lv_iconst (v := 1) hx hb dL_law_1134 (by decide) ?_
      refine lv_iadd hx hb dL_law_1135 ?_
      rw [show (nI i) + 1 = nI (i + 1) from nI_add i 1]
      refine va_sld hx hb hX hbl hbA hS (vp_in_nI (by omega) (by omega)) dL_law_1136 ?_
      rw [show (nI (i + 1)).toNatClampNeg = i + 1 from nI_clamp (by omega)]
      rw [h1]
      refine lv_aload_n hx hb dL_law_1137 rfl (lv_at hl 1 rfl) ?_
      refine g_LS (As := [.ref x0, .int (nI 1), .ref o]) (rest := []) ⟨hx, hb, hml, hown, hts⟩ (mt_L_advise_2_1 l htr dC dI cA cL H.size x0 r0 r1 r2 r3 rn a1 L1 f1 a2 n2 f2 a3 n3 f3 o fo hR1 hpl) (vx_cwSW 3 hts gL_law_L_advise rfl rfl rfl hdL_advise ⟨Nat.le_of_ble_eq_true rfl, Nat.le_of_ble_eq_true rfl⟩) hP hKl hD hS hA hZ [0, 3, 4, 5, 6, 7, 8, 15] (by decide) rfl rfl hl.1 rfl (Nat.le_of_ble_eq_true rfl) dL_law_1138 hc1 hs1 (fun u9 => [(x0, .inr (1, [.ref r0, .ref r1, .ref r2, .ref r3, .int (nI rn)])), (r0, .inr (0, [.ref a0, .int (nI L0.length)])), (a0, .inl (cA, (100, .inl f0))), (r1, .inr (0, [.ref a1, .int (nI L1.length)])), (a1, .inl (cA, (100, .inl f1))), (r2, .inr (0, [.ref a2, .int u9.1])), (a2, .inl (cA, (100, .inl u9.2.1))), (r3, .inr (0, [.ref a3, .int u9.2.2.1])), (a3, .inl (cA, (100, .inl u9.2.2.2))), (y0, .inr (2, [.int tv, .int (nI rn), .ref q1, .ref q2, .int mn, .ref q3, .ref q4, .int ct, .int il, .ref q5])), (q1, .inl (cA, (2, .inl sf))), (q2, .inl (cA, (60, .inl lf))), (q3, .inl (cA, (320, .inl rf))), (q4, .inl (cA, (320, .inl nf))), (q5, .inl (cA, (6, .inl gf))), (o, .inl (cL, (1, .inr (.inl fo))))]) (fun _ => rfl) (fun _ => rfl) (fun u H locs hw_5 hP hD hS => ?_)
      obtain ⟨m2_1, g2_2, m3_3, g3_4⟩ := u
      have hw_5 : True := hw_5
      have hP : va_P (dC, dI) vwCl [(x0, .inr (1, [.ref r0, .ref r1, .ref r2, .ref r3, .int (nI rn)])), (r0, .inr (0, [.ref a0, .int (nI L0.length)])), (a0, .inl (cA, (100, .inl f0))), (r1, .inr (0, [.ref a1, .int (nI L1.length)])), (a1, .inl (cA, (100, .inl f1))), (r2, .inr (0, [.ref a2, .int m2_1])), (a2, .inl (cA, (100, .inl g2_2))), (r3, .inr (0, [.ref a3, .int m3_3])), (a3, .inl (cA, (100, .inl g3_4))), (y0, .inr (2, [.int tv, .int (nI rn), .ref q1, .ref q2, .int mn, .ref q3, .ref q4, .int ct, .int il, .ref q5])), (q1, .inl (cA, (2, .inl sf))), (q2, .inl (cA, (60, .inl lf))), (q3, .inl (cA, (320, .inl rf))), (q4, .inl (cA, (320, .inl nf))), (q5, .inl (cA, (6, .inl gf))), (o, .inl (cL, (1, .inr (.inl fo))))] H := hP
      have hD : va_D A [(x0, .inr (1, [.ref r0, .ref r1, .ref r2, .ref r3, .int (nI rn)])), (r0, .inr (0, [.ref a0, .int (nI L0.length)])), (a0, .inl (cA, (100, .inl f0))), (r1, .inr (0, [.ref a1, .int (nI L1.length)])), (a1, .inl (cA, (100, .inl f1))), (r2, .inr (0, [.ref a2, .int m2_1])), (a2, .inl (cA, (100, .inl g2_2))), (r3, .inr (0, [.ref a3, .int m3_3])), (a3, .inl (cA, (100, .inl g3_4))), (y0, .inr (2, [.int tv, .int (nI rn), .ref q1, .ref q2, .int mn, .ref q3, .ref q4, .int ct, .int il, .ref q5])), (q1, .inl (cA, (2, .inl sf))), (q2, .inl (cA, (60, .inl lf))), (q3, .inl (cA, (320, .inl rf))), (q4, .inl (cA, (320, .inl nf))), (q5, .inl (cA, (6, .inl gf))), (o, .inl (cL, (1, .inr (.inl fo))))] := hD
      refine lv_istore (lv' := [(5, .int 2), (4, .int (nI i)), (3, .ref o), (2, .ref y0), (1, .ref x0), (0, .ref b)]) hx hb dL_law_1141 hl (by decide) rfl (fun ls hl => ?_)
      refine lv_aload_n hx hb dL_law_1143 rfl (lv_at hl 3 rfl) ?_
      refine lv_aload_n hx hb dL_law_1144 rfl (lv_at hl 5 rfl) ?_
      refine lv_iload hx hb dL_law_1145 (lv_at hl 1 rfl) ?_
      refine lv_iconst (v := 1) hx hb dL_law_1147 (by decide) ?_
      refine lv_iadd hx hb dL_law_1148 ?_
      rw [show (nI i) + 1 = nI (i + 1) from nI_add i 1]
      refine va_sld hx hb hX hbl hbA hS (vp_in_nI (by omega) (by omega)) dL_law_1149 ?_
      rw [show (nI (i + 1)).toNatClampNeg = i + 1 from nI_clamp (by omega)]
      rw [h1]
      refine g_MVi (As := [.int (nI 1)]) (rest := []) ⟨hx, hb, hml, hown, hts⟩ (mt_X2_advise_2 l dC dI cA H.size y0 q1 q2 q3 q4 q5 rn tv sf lf mn rf nf ct il gf (V2 L0 L1) 1 hW hrn hr6 hok (by omega) hpl) (cwV 1 hts gL_law_X2_advise rfl rfl rfl hdX2_advise ⟨Nat.le_of_ble_eq_true rfl, Nat.le_of_ble_eq_true rfl⟩) hP hK hD hS hA [9, 10, 11, 12, 13, 14] (by decide) rfl (va_recv hK hP (ci := 2) (q0 := 9) rfl rfl) rfl hl.1 rfl (Nat.le_of_ble_eq_true rfl) dL_law_1150 hc1 hs1 (fun u9 => [(x0, .inr (1, [.ref r0, .ref r1, .ref r2, .ref r3, .int (nI rn)])), (r0, .inr (0, [.ref a0, .int (nI L0.length)])), (a0, .inl (cA, (100, .inl f0))), (r1, .inr (0, [.ref a1, .int (nI L1.length)])), (a1, .inl (cA, (100, .inl f1))), (r2, .inr (0, [.ref a2, .int m2_1])), (a2, .inl (cA, (100, .inl g2_2))), (r3, .inr (0, [.ref a3, .int m3_3])), (a3, .inl (cA, (100, .inl g3_4))), (y0, .inr (2, [.int 2, .int (nI rn), .ref q1, .ref q2, .int u9.1, .ref q3, .ref q4, .int u9.2.2.2.1, .int u9.2.2.2.2, .ref q5])), (q1, .inl (cA, (2, .inl sf))), (q2, .inl (cA, (60, .inl lf))), (q3, .inl (cA, (320, .inl u9.2.1))), (q4, .inl (cA, (320, .inl u9.2.2.1))), (q5, .inl (cA, (6, .inl gf))), (o, .inl (cL, (1, .inr (.inl fo))))]) (fun _ => rfl) (fun _ => rfl) (fun u H locs hw_11 hP hD hS => ?_)
      obtain ⟨m1_6, r1_7, n1_8, c1_9, i1_10⟩ := u
      have hw_11 : True := hw_11
      have hP : va_P (dC, dI) vwCl [(x0, .inr (1, [.ref r0, .ref r1, .ref r2, .ref r3, .int (nI rn)])), (r0, .inr (0, [.ref a0, .int (nI L0.length)])), (a0, .inl (cA, (100, .inl f0))), (r1, .inr (0, [.ref a1, .int (nI L1.length)])), (a1, .inl (cA, (100, .inl f1))), (r2, .inr (0, [.ref a2, .int m2_1])), (a2, .inl (cA, (100, .inl g2_2))), (r3, .inr (0, [.ref a3, .int m3_3])), (a3, .inl (cA, (100, .inl g3_4))), (y0, .inr (2, [.int 2, .int (nI rn), .ref q1, .ref q2, .int m1_6, .ref q3, .ref q4, .int c1_9, .int i1_10, .ref q5])), (q1, .inl (cA, (2, .inl sf))), (q2, .inl (cA, (60, .inl lf))), (q3, .inl (cA, (320, .inl r1_7))), (q4, .inl (cA, (320, .inl n1_8))), (q5, .inl (cA, (6, .inl gf))), (o, .inl (cL, (1, .inr (.inl fo))))] H := hP
      have hD : va_D A [(x0, .inr (1, [.ref r0, .ref r1, .ref r2, .ref r3, .int (nI rn)])), (r0, .inr (0, [.ref a0, .int (nI L0.length)])), (a0, .inl (cA, (100, .inl f0))), (r1, .inr (0, [.ref a1, .int (nI L1.length)])), (a1, .inl (cA, (100, .inl f1))), (r2, .inr (0, [.ref a2, .int m2_1])), (a2, .inl (cA, (100, .inl g2_2))), (r3, .inr (0, [.ref a3, .int m3_3])), (a3, .inl (cA, (100, .inl g3_4))), (y0, .inr (2, [.int 2, .int (nI rn), .ref q1, .ref q2, .int m1_6, .ref q3, .ref q4, .int c1_9, .int i1_10, .ref q5])), (q1, .inl (cA, (2, .inl sf))), (q2, .inl (cA, (60, .inl lf))), (q3, .inl (cA, (320, .inl r1_7))), (q4, .inl (cA, (320, .inl n1_8))), (q5, .inl (cA, (6, .inl gf))), (o, .inl (cL, (1, .inr (.inl fo))))] := hD
      refine lv_istore (lv' := [(6, .int 0), (5, .int 2), (4, .int (nI i)), (3, .ref o), (2, .ref y0), (1, .ref x0), (0, .ref b)]) hx hb dL_law_1153 hl (by decide) rfl (fun ls hl => ?_)
      refine lv_aload_n hx hb dL_law_1155 rfl (lv_at hl 4 rfl) ?_
      refine g_RVi (As := []) (rest := []) ⟨hx, hb, hml, hown, hts⟩ (mt_X2_thrown l dC dI cA H.size y0 q1 q2 q3 q4 q5 rn 2 sf lf m1_6 r1_7 n1_8 c1_9 i1_10 gf) (cwV 0 hts gL_law_X2_thrown rfl rfl rfl hdX2_thrown ⟨Nat.le_of_ble_eq_true rfl, Nat.le_of_ble_eq_true rfl⟩) hP hK hD [9, 10, 11, 12, 13, 14] (by decide) rfl (va_recv hK hP (ci := 2) (q0 := 9) rfl rfl) rfl hl.1 rfl (Nat.le_of_ble_eq_true rfl) dL_law_1156 hc1 hs1 ?_
      refine lv_iload hx hb dL_law_1159 (lv_at hl 1 rfl) ?_
      refine lv_icmp_eq (tgt := 1166) hx hb dL_law_1161 (by decide) (fun c1161 => ?_) (fun c1161 => ?_)
      · refine lv_iload hx hb dL_law_1166 (lv_at hl 1 rfl) ?_
        refine lv_if_ne (tgt := 1183) hx hb dL_law_1168 (by decide) (fun c1168 => ?_) (fun c1168 => ?_)
        · have c1168 : ¬ 2 = 0 := g_neT 2 0 (by omega) (by omega) c1168
          refine lv_goto (tgt := 1241) hx hb dL_law_1183 (by decide) ?_
          exact kk rn L0 L1 _ _ _ _ _ ⟨f0, f1, m2_1, g2_2, m3_3, g3_4, 2, sf, lf, m1_6, r1_7, n1_8, c1_9, i1_10, gf, fo, hP, hD, hS, hR0, hR1, hl0, hl1, hrn, hr6, hk0, hk1, hW⟩ (by omega) (by omega) (lv_sub hl [2, 3, 4, 5, 6] rfl)
        · exact absurd c1168 (by decide)
      · exact absurd (by decide) c1161
    · refine lv_aload_n hx hb dL_law_1130 rfl (lv_at hl 3 rfl) ?_
      refine lv_aload_n hx hb dL_law_1131 rfl (lv_at hl 4 rfl) ?_
      refine lv_iload hx hb dL_law_1132 (lv_at hl 0 rfl) ?_
      refine lv_iconst (v := 1) hx hb dL_law_1134 (by decide) ?_
      refine lv_iadd hx hb dL_law_1135 ?_
      rw [show (nI i) + 1 = nI (i + 1) from nI_add i 1]
      refine va_sld hx hb hX hbl hbA hS (vp_in_nI (by omega) (by omega)) dL_law_1136 ?_
      rw [show (nI (i + 1)).toNatClampNeg = i + 1 from nI_clamp (by omega)]
      rw [h1]
      refine lv_aload_n hx hb dL_law_1137 rfl (lv_at hl 1 rfl) ?_
      refine g_LS (As := [.ref x0, .int (nI 1), .ref o]) (rest := []) ⟨hx, hb, hml, hown, hts⟩ (mt_L_advise1 l htr dC dI cA cL H.size x0 r0 r1 r2 r3 rn a1 L1 f1 a2 n2 f2 a3 n3 f3 zz o fo hR1 hpl hl1 (Nat.le_trans (by decide) (rn_3 rn hrn)) hr6) (vx_cwSW 3 hts gL_law_L_advise rfl rfl rfl hdL_advise ⟨Nat.le_of_ble_eq_true rfl, Nat.le_of_ble_eq_true rfl⟩) hP hKl hD hS hA hZ [0, 3, 4, 5, 6, 7, 8, 15] (by decide) rfl rfl hl.1 rfl (Nat.le_of_ble_eq_true rfl) dL_law_1138 hc0 hs0 (fun u9 => [(x0, .inr (1, [.ref r0, .ref r1, .ref r2, .ref r3, .int (nI rn)])), (r0, .inr (0, [.ref a0, .int (nI L0.length)])), (a0, .inl (cA, (100, .inl f0))), (r1, .inr (0, [.ref a1, .int (nI L1.length)])), (a1, .inl (cA, (100, .inl f1))), (r2, .inr (0, [.ref a2, .int u9.1])), (a2, .inl (cA, (100, .inl u9.2.1))), (r3, .inr (0, [.ref a3, .int u9.2.2.1])), (a3, .inl (cA, (100, .inl u9.2.2.2))), (y0, .inr (2, [.int tv, .int (nI rn), .ref q1, .ref q2, .int mn, .ref q3, .ref q4, .int ct, .int il, .ref q5])), (q1, .inl (cA, (2, .inl sf))), (q2, .inl (cA, (60, .inl lf))), (q3, .inl (cA, (320, .inl rf))), (q4, .inl (cA, (320, .inl nf))), (q5, .inl (cA, (6, .inl gf))), (o, .inl (cL, (1, .inr (.inl (vp_updL fo 0 ((adH L1 (nI zz.2.length) (rn - 1)).1).toInt64)))))]) (fun _ => rfl) (fun _ => rfl) (fun u H locs hw_5 hP hD hS => ?_)
      obtain ⟨m2_1, g2_2, m3_3, g3_4⟩ := u
      have hw_5 : True := hw_5
      have hP : va_P (dC, dI) vwCl [(x0, .inr (1, [.ref r0, .ref r1, .ref r2, .ref r3, .int (nI rn)])), (r0, .inr (0, [.ref a0, .int (nI L0.length)])), (a0, .inl (cA, (100, .inl f0))), (r1, .inr (0, [.ref a1, .int (nI L1.length)])), (a1, .inl (cA, (100, .inl f1))), (r2, .inr (0, [.ref a2, .int m2_1])), (a2, .inl (cA, (100, .inl g2_2))), (r3, .inr (0, [.ref a3, .int m3_3])), (a3, .inl (cA, (100, .inl g3_4))), (y0, .inr (2, [.int tv, .int (nI rn), .ref q1, .ref q2, .int mn, .ref q3, .ref q4, .int ct, .int il, .ref q5])), (q1, .inl (cA, (2, .inl sf))), (q2, .inl (cA, (60, .inl lf))), (q3, .inl (cA, (320, .inl rf))), (q4, .inl (cA, (320, .inl nf))), (q5, .inl (cA, (6, .inl gf))), (o, .inl (cL, (1, .inr (.inl (vp_updL fo 0 ((adH L1 (nI zz.2.length) (rn - 1)).1).toInt64)))))] H := hP
      have hD : va_D A [(x0, .inr (1, [.ref r0, .ref r1, .ref r2, .ref r3, .int (nI rn)])), (r0, .inr (0, [.ref a0, .int (nI L0.length)])), (a0, .inl (cA, (100, .inl f0))), (r1, .inr (0, [.ref a1, .int (nI L1.length)])), (a1, .inl (cA, (100, .inl f1))), (r2, .inr (0, [.ref a2, .int m2_1])), (a2, .inl (cA, (100, .inl g2_2))), (r3, .inr (0, [.ref a3, .int m3_3])), (a3, .inl (cA, (100, .inl g3_4))), (y0, .inr (2, [.int tv, .int (nI rn), .ref q1, .ref q2, .int mn, .ref q3, .ref q4, .int ct, .int il, .ref q5])), (q1, .inl (cA, (2, .inl sf))), (q2, .inl (cA, (60, .inl lf))), (q3, .inl (cA, (320, .inl rf))), (q4, .inl (cA, (320, .inl nf))), (q5, .inl (cA, (6, .inl gf))), (o, .inl (cL, (1, .inr (.inl (vp_updL fo 0 ((adH L1 (nI zz.2.length) (rn - 1)).1).toInt64)))))] := hD
      refine lv_istore (lv' := [(5, .int 0), (4, .int (nI i)), (3, .ref o), (2, .ref y0), (1, .ref x0), (0, .ref b)]) hx hb dL_law_1141 hl (by decide) rfl (fun ls hl => ?_)
      refine lv_aload_n hx hb dL_law_1143 rfl (lv_at hl 3 rfl) ?_
      refine lv_aload_n hx hb dL_law_1144 rfl (lv_at hl 5 rfl) ?_
      refine lv_iload hx hb dL_law_1145 (lv_at hl 1 rfl) ?_
      refine lv_iconst (v := 1) hx hb dL_law_1147 (by decide) ?_
      refine lv_iadd hx hb dL_law_1148 ?_
      rw [show (nI i) + 1 = nI (i + 1) from nI_add i 1]
      refine va_sld hx hb hX hbl hbA hS (vp_in_nI (by omega) (by omega)) dL_law_1149 ?_
      rw [show (nI (i + 1)).toNatClampNeg = i + 1 from nI_clamp (by omega)]
      rw [h1]
      refine g_MVi (As := [.int (nI 1)]) (rest := []) ⟨hx, hb, hml, hown, hts⟩ (mt_X2_advise l dC dI cA H.size y0 q1 q2 q3 q4 q5 rn tv sf lf mn rf nf ct il gf (V2 L0 L1) 1 zz hW hrn hr6 hok (by omega) hpl) (cwV 1 hts gL_law_X2_advise rfl rfl rfl hdX2_advise ⟨Nat.le_of_ble_eq_true rfl, Nat.le_of_ble_eq_true rfl⟩) hP hK hD hS hA [9, 10, 11, 12, 13, 14] (by decide) rfl (va_recv hK hP (ci := 2) (q0 := 9) rfl rfl) rfl hl.1 rfl (Nat.le_of_ble_eq_true rfl) dL_law_1150 hc0 hs0 (fun u9 => [(x0, .inr (1, [.ref r0, .ref r1, .ref r2, .ref r3, .int (nI rn)])), (r0, .inr (0, [.ref a0, .int (nI L0.length)])), (a0, .inl (cA, (100, .inl f0))), (r1, .inr (0, [.ref a1, .int (nI L1.length)])), (a1, .inl (cA, (100, .inl f1))), (r2, .inr (0, [.ref a2, .int m2_1])), (a2, .inl (cA, (100, .inl g2_2))), (r3, .inr (0, [.ref a3, .int m3_3])), (a3, .inl (cA, (100, .inl g3_4))), (y0, .inr (2, [.int 0, .int (nI rn), .ref q1, .ref q2, .int u9.1, .ref q3, .ref q4, .int u9.2.2.2.1, .int u9.2.2.2.2, .ref q5])), (q1, .inl (cA, (2, .inl sf))), (q2, .inl (cA, (60, .inl lf))), (q3, .inl (cA, (320, .inl u9.2.1))), (q4, .inl (cA, (320, .inl u9.2.2.1))), (q5, .inl (cA, (6, .inl gf))), (o, .inl (cL, (1, .inr (.inl (vp_updL fo 0 ((adH L1 (nI zz.2.length) (rn - 1)).1).toInt64)))))]) (fun _ => rfl) (fun _ => rfl) (fun u H locs hw_11 hP hD hS => ?_)
      obtain ⟨m1_6, r1_7, n1_8, c1_9, i1_10⟩ := u
      have hw_11 : True := hw_11
      have hP : va_P (dC, dI) vwCl [(x0, .inr (1, [.ref r0, .ref r1, .ref r2, .ref r3, .int (nI rn)])), (r0, .inr (0, [.ref a0, .int (nI L0.length)])), (a0, .inl (cA, (100, .inl f0))), (r1, .inr (0, [.ref a1, .int (nI L1.length)])), (a1, .inl (cA, (100, .inl f1))), (r2, .inr (0, [.ref a2, .int m2_1])), (a2, .inl (cA, (100, .inl g2_2))), (r3, .inr (0, [.ref a3, .int m3_3])), (a3, .inl (cA, (100, .inl g3_4))), (y0, .inr (2, [.int 0, .int (nI rn), .ref q1, .ref q2, .int m1_6, .ref q3, .ref q4, .int c1_9, .int i1_10, .ref q5])), (q1, .inl (cA, (2, .inl sf))), (q2, .inl (cA, (60, .inl lf))), (q3, .inl (cA, (320, .inl r1_7))), (q4, .inl (cA, (320, .inl n1_8))), (q5, .inl (cA, (6, .inl gf))), (o, .inl (cL, (1, .inr (.inl (vp_updL fo 0 ((adH L1 (nI zz.2.length) (rn - 1)).1).toInt64)))))] H := hP
      have hD : va_D A [(x0, .inr (1, [.ref r0, .ref r1, .ref r2, .ref r3, .int (nI rn)])), (r0, .inr (0, [.ref a0, .int (nI L0.length)])), (a0, .inl (cA, (100, .inl f0))), (r1, .inr (0, [.ref a1, .int (nI L1.length)])), (a1, .inl (cA, (100, .inl f1))), (r2, .inr (0, [.ref a2, .int m2_1])), (a2, .inl (cA, (100, .inl g2_2))), (r3, .inr (0, [.ref a3, .int m3_3])), (a3, .inl (cA, (100, .inl g3_4))), (y0, .inr (2, [.int 0, .int (nI rn), .ref q1, .ref q2, .int m1_6, .ref q3, .ref q4, .int c1_9, .int i1_10, .ref q5])), (q1, .inl (cA, (2, .inl sf))), (q2, .inl (cA, (60, .inl lf))), (q3, .inl (cA, (320, .inl r1_7))), (q4, .inl (cA, (320, .inl n1_8))), (q5, .inl (cA, (6, .inl gf))), (o, .inl (cL, (1, .inr (.inl (vp_updL fo 0 ((adH L1 (nI zz.2.length) (rn - 1)).1).toInt64)))))] := hD
      refine lv_istore (lv' := [(6, .int ((adH ((V2 L0 L1) 1) (nI zz.2.length) (rn - 1)).1)), (5, .int 0), (4, .int (nI i)), (3, .ref o), (2, .ref y0), (1, .ref x0), (0, .ref b)]) hx hb dL_law_1153 hl (by decide) rfl (fun ls hl => ?_)
      refine lv_aload_n hx hb dL_law_1155 rfl (lv_at hl 4 rfl) ?_
      refine g_RVi (As := []) (rest := []) ⟨hx, hb, hml, hown, hts⟩ (mt_X2_thrown l dC dI cA H.size y0 q1 q2 q3 q4 q5 rn 0 sf lf m1_6 r1_7 n1_8 c1_9 i1_10 gf) (cwV 0 hts gL_law_X2_thrown rfl rfl rfl hdX2_thrown ⟨Nat.le_of_ble_eq_true rfl, Nat.le_of_ble_eq_true rfl⟩) hP hK hD [9, 10, 11, 12, 13, 14] (by decide) rfl (va_recv hK hP (ci := 2) (q0 := 9) rfl rfl) rfl hl.1 rfl (Nat.le_of_ble_eq_true rfl) dL_law_1156 hc0 hs0 ?_
      refine lv_iload hx hb dL_law_1159 (lv_at hl 1 rfl) ?_
      refine lv_icmp_eq (tgt := 1166) hx hb dL_law_1161 (by decide) (fun c1161 => ?_) (fun c1161 => ?_)
      · refine lv_iload hx hb dL_law_1166 (lv_at hl 1 rfl) ?_
        refine lv_if_ne (tgt := 1183) hx hb dL_law_1168 (by decide) (fun c1168 => ?_) (fun c1168 => ?_)
        · exact absurd (by decide) c1168
        · have c1168 : 0 = 0 := g_neF 0 0 (by omega) (by omega) c1168
          refine lv_aload_n hx hb dL_law_1171 rfl (lv_at hl 3 rfl) ?_
          refine lv_iconst (v := 0) hx hb dL_law_1172 (by decide) ?_
          refine va_lald hx hb hKl hP 15 1 rfl rfl (vp_in_nI (n := 0) (by omega) (by decide)) dL_law_1173 ?_
          rw [show (0 : Int32).toNatClampNeg = 0 from by decide, pk_uLs]
          refine lv_iload hx hb dL_law_1174 (lv_at hl 0 rfl) ?_
          refine lv_i2l (v := ((adH ((V2 L0 L1) 1) (nI zz.2.length) (rn - 1)).1).toInt64) hx hb dL_law_1176 rfl ?_
          refine W.lcmp hx hb dL_law_1177 ?_
          rw [show lg_cmp (((adH L1 (nI zz.2.length) (rn - 1)).1).toInt64) (((adH ((V2 L0 L1) 1) (nI zz.2.length) (rn - 1)).1).toInt64) = 0 from (lg_cmp_eq _ _).mpr rfl]
          refine lv_if_eq (tgt := 1183) hx hb dL_law_1178 (by decide) (fun c1178 => ?_) (fun c1178 => ?_)
          · have c1178 : 0 = 0 := g_eqT 0 0 (by omega) (by omega) c1178
            refine lv_goto (tgt := 1241) hx hb dL_law_1183 (by decide) ?_
            exact kk rn L0 L1 _ _ _ _ _ ⟨f0, f1, m2_1, g2_2, m3_3, g3_4, 0, sf, lf, m1_6, r1_7, n1_8, c1_9, i1_10, gf, vp_updL fo 0 ((adH L1 (nI zz.2.length) (rn - 1)).1).toInt64, hP, hD, hS, hR0, hR1, hl0, hl1, hrn, hr6, hk0, hk1, hW⟩ (by omega) (by omega) (lv_sub hl [2, 3, 4, 5, 6] rfl)
          · exact absurd (by decide) c1178
      · exact absurd (by decide) c1161

set_option maxHeartbeats 4000000 in
set_option maxRecDepth 100000 in
theorem lw_op_18 {p : Program} {l : Launch} {e : Env} {s : State} {m : MethodId} {below : List Frame} {meth : Method} {c : Code} {Q : State → Prop} {b L : Nat} {xs : Nat → Int32} {dC : Nat → ClassId} {dI : Nat → Nat → Nat} {cA cL : ClassId} {A : Nat → Prop} (E : lwE p l s m c b L xs dC dI cA cL A) {x0 r0 r1 r2 r3 a0 a1 a2 a3 y0 q1 q2 q3 q4 q5 o : Nat} {i : Nat} (hi : i + 4 ≤ L) {cells slots : Nat} (hC : cells + 1 ≤ 1053) (hS9 : slots + 6 ≤ 9402) {rn : Nat} {L0 L1 : List Int32} {H : Heap} {locs : List Loc} (hI : lwI dC dI cA cL A s.heap x0 r0 r1 r2 r3 a0 a1 a2 a3 y0 q1 q2 q3 q4 q5 o rn L0 L1 H locs) {ls : Array Slot} (hl : lv_has ls 9 [(4, .int (nI i)), (3, .ref o), (2, .ref y0), (1, .ref x0), (0, .ref b)])
    (kk : ∀ (rn : Nat) (L0 L1 : List Int32) (H : Heap) (locs : List Loc) (cells1 slots1 : Nat) (ls : Array Slot), lwI dC dI cA cL A s.heap x0 r0 r1 r2 r3 a0 a1 a2 a3 y0 q1 q2 q3 q4 q5 o rn L0 L1 H locs → cells1 ≤ cells + 1 → slots1 ≤ slots + 6 → lv_has ls 9 [(4, .int (nI i)), (3, .ref o), (2, .ref y0), (1, .ref x0), (0, .ref b)] → W p l e room_1 s m #[Value.ref b] below meth c H locs cells1 slots1 Q (F0 m 1241 ls [])) :
    W p l e room_1 s m #[Value.ref b] below meth c H locs cells slots Q (F0 m 1186 ls []) := by
  obtain ⟨hx, hb, hml, hown, hts, hX, hbl, hbA, hA, htr, hKl, hZ, hL2⟩ := E
  obtain ⟨f0, f1, n2, f2, n3, f3, tv, sf, lf, mn, rf, nf, ct, il, gf, fo, hP, hD, hS, hR0, hR1, hl0, hl1, hrn, hr6, hk0, hk1, hW⟩ := hI
  have hK : va_K (dC, dI) vwCl [(cA, .int)] s := hKl.sub [0] rfl
  have hok := V2_ok hk0 hk1
  have hc0 : cells ≤ room_1.cells := (show cells ≤ 1053 from by omega)
  have hs0 : slots ≤ room_1.slots := (show slots ≤ 9402 from by omega)
  have hc1 : cells + 1 ≤ room_1.cells := hC
  have hs1 : slots + 6 ≤ room_1.slots := hS9
  refine lv_aload_n hx hb dL_law_1186 rfl (lv_at hl 3 rfl) ?_
  refine g_RVd (As := []) (rest := []) ⟨hx, hb, hml, hown, hts⟩ (mt_X1_mean l dC dI cA H.size x0 r0 r1 r2 r3 rn a0 a1 L0 f0 L1 f1 hR0 hR1 hrn hr6 hk0 hk1 hl0 hl1) (cwV 0 hts gL_law_X1_mean rfl rfl rfl hdX1_mean ⟨Nat.le_of_ble_eq_true rfl, Nat.le_of_ble_eq_true rfl⟩) hP hK hD [0, 1, 2, 3, 4] (by decide) rfl (va_recv hK hP (ci := 1) (q0 := 0) rfl rfl) rfl hl.1 rfl (Nat.le_of_ble_eq_true rfl) dL_law_1187 hc0 hs0 ?_
  refine lv_dstore (lv' := [(5, .double (mnV L0 L1)), (4, .int (nI i)), (3, .ref o), (2, .ref y0), (1, .ref x0), (0, .ref b)]) hx hb dL_law_1190 hl (by decide) rfl (fun ls hl => ?_)
  refine lv_aload_n hx hb dL_law_1192 rfl (lv_at hl 3 rfl) ?_
  refine g_MVd (As := []) (rest := []) ⟨hx, hb, hml, hown, hts⟩ (mt_X2_mean l dC dI cA H.size y0 q1 q2 q3 q4 q5 rn tv sf lf mn rf nf ct il gf (V2 L0 L1) hW hrn hr6 hok) (cwV 0 hts gL_law_X2_mean rfl rfl rfl hdX2_mean ⟨Nat.le_of_ble_eq_true rfl, Nat.le_of_ble_eq_true rfl⟩) hP hK hD hS hA [9, 10, 11, 12, 13, 14] (by decide) rfl (va_recv hK hP (ci := 2) (q0 := 9) rfl rfl) rfl hl.1 rfl (Nat.le_of_ble_eq_true rfl) dL_law_1193 hc0 hs0 (fun u9 => [(x0, .inr (1, [.ref r0, .ref r1, .ref r2, .ref r3, .int (nI rn)])), (r0, .inr (0, [.ref a0, .int (nI L0.length)])), (a0, .inl (cA, (100, .inl f0))), (r1, .inr (0, [.ref a1, .int (nI L1.length)])), (a1, .inl (cA, (100, .inl f1))), (r2, .inr (0, [.ref a2, .int n2])), (a2, .inl (cA, (100, .inl f2))), (r3, .inr (0, [.ref a3, .int n3])), (a3, .inl (cA, (100, .inl f3))), (y0, .inr (2, [.int 0, .int (nI rn), .ref q1, .ref q2, .int mn, .ref q3, .ref q4, .int ct, .int il, .ref q5])), (q1, .inl (cA, (2, .inl sf))), (q2, .inl (cA, (60, .inl lf))), (q3, .inl (cA, (320, .inl rf))), (q4, .inl (cA, (320, .inl nf))), (q5, .inl (cA, (6, .inl gf))), (o, .inl (cL, (1, .inr (.inl fo))))]) (fun _ => rfl) (fun _ => rfl) (fun u H locs hw_1 hP hD hS => ?_)
  have hw_1 : True := hw_1
  have hP : va_P (dC, dI) vwCl [(x0, .inr (1, [.ref r0, .ref r1, .ref r2, .ref r3, .int (nI rn)])), (r0, .inr (0, [.ref a0, .int (nI L0.length)])), (a0, .inl (cA, (100, .inl f0))), (r1, .inr (0, [.ref a1, .int (nI L1.length)])), (a1, .inl (cA, (100, .inl f1))), (r2, .inr (0, [.ref a2, .int n2])), (a2, .inl (cA, (100, .inl f2))), (r3, .inr (0, [.ref a3, .int n3])), (a3, .inl (cA, (100, .inl f3))), (y0, .inr (2, [.int 0, .int (nI rn), .ref q1, .ref q2, .int mn, .ref q3, .ref q4, .int ct, .int il, .ref q5])), (q1, .inl (cA, (2, .inl sf))), (q2, .inl (cA, (60, .inl lf))), (q3, .inl (cA, (320, .inl rf))), (q4, .inl (cA, (320, .inl nf))), (q5, .inl (cA, (6, .inl gf))), (o, .inl (cL, (1, .inr (.inl fo))))] H := hP
  have hD : va_D A [(x0, .inr (1, [.ref r0, .ref r1, .ref r2, .ref r3, .int (nI rn)])), (r0, .inr (0, [.ref a0, .int (nI L0.length)])), (a0, .inl (cA, (100, .inl f0))), (r1, .inr (0, [.ref a1, .int (nI L1.length)])), (a1, .inl (cA, (100, .inl f1))), (r2, .inr (0, [.ref a2, .int n2])), (a2, .inl (cA, (100, .inl f2))), (r3, .inr (0, [.ref a3, .int n3])), (a3, .inl (cA, (100, .inl f3))), (y0, .inr (2, [.int 0, .int (nI rn), .ref q1, .ref q2, .int mn, .ref q3, .ref q4, .int ct, .int il, .ref q5])), (q1, .inl (cA, (2, .inl sf))), (q2, .inl (cA, (60, .inl lf))), (q3, .inl (cA, (320, .inl rf))), (q4, .inl (cA, (320, .inl nf))), (q5, .inl (cA, (6, .inl gf))), (o, .inl (cL, (1, .inr (.inl fo))))] := hD
  refine lv_dstore (lv' := [(7, .double (mnV ((V2 L0 L1) 0) ((V2 L0 L1) 1))), (5, .double (mnV L0 L1)), (4, .int (nI i)), (3, .ref o), (2, .ref y0), (1, .ref x0), (0, .ref b)]) hx hb dL_law_1196 hl (by decide) rfl (fun ls hl => ?_)
  refine lv_dload hx hb dL_law_1198 (lv_at hl 1 rfl) ?_
  refine lv_dload hx hb dL_law_1200 (lv_at hl 0 rfl) ?_
  refine lv_dcmp hx hb dL_law_1202 ?_
  obtain ⟨v9, hv9⟩ : ∃ v, v = Op.cmpValue (FP.dcmp (mnV L0 L1) (mnV L0 L1)) CmpOp.l := ⟨_, rfl⟩
  rw [show Op.cmpValue (FP.dcmp (mnV L0 L1) (mnV (V2 L0 L1 0) (V2 L0 L1 1))) CmpOp.l = v9 from hv9.symm]
  refine lv_if_eq (tgt := 1224) hx hb dL_law_1203 (by decide) (fun c1203 => ?_) (fun c1203 => ?_)
  · refine lv_goto (tgt := 1241) hx hb dL_law_1224 (by decide) ?_
    exact kk rn L0 L1 _ _ _ _ _ ⟨f0, f1, n2, f2, n3, f3, 0, sf, lf, mn, rf, nf, ct, il, gf, fo, hP, hD, hS, hR0, hR1, hl0, hl1, hrn, hr6, hk0, hk1, hW⟩ (by omega) (by omega) (lv_sub hl [2, 3, 4, 5, 6] rfl)
  · refine lv_dload hx hb dL_law_1206 (lv_at hl 1 rfl) ?_
    refine lv_dload hx hb dL_law_1208 (lv_at hl 1 rfl) ?_
    refine lv_dcmp hx hb dL_law_1210 ?_
    rw [show (Op.cmpValue (FP.dcmp (mnV L0 L1) (mnV L0 L1)) CmpOp.l) = v9 from hv9.symm]
    refine lv_if_eq (tgt := 1222) hx hb dL_law_1211 (by decide) (fun c1211 => ?_) (fun c1211 => ?_)
    · exact absurd c1211 c1203
    · refine lv_dload hx hb dL_law_1214 (lv_at hl 0 rfl) ?_
      refine lv_dload hx hb dL_law_1216 (lv_at hl 0 rfl) ?_
      refine lv_dcmp hx hb dL_law_1218 ?_
      rw [show (Op.cmpValue (FP.dcmp (mnV ((V2 L0 L1) 0) ((V2 L0 L1) 1)) (mnV ((V2 L0 L1) 0) ((V2 L0 L1) 1))) CmpOp.l) = v9 from hv9.symm]
      refine lv_if_ne (tgt := 1224) hx hb dL_law_1219 (by decide) (fun c1219 => ?_) (fun c1219 => ?_)
      · refine lv_goto (tgt := 1241) hx hb dL_law_1224 (by decide) ?_
        exact kk rn L0 L1 _ _ _ _ _ ⟨f0, f1, n2, f2, n3, f3, 0, sf, lf, mn, rf, nf, ct, il, gf, fo, hP, hD, hS, hR0, hR1, hl0, hl1, hrn, hr6, hk0, hk1, hW⟩ (by omega) (by omega) (lv_sub hl [2, 3, 4, 5, 6] rfl)
      · exact absurd c1219 c1203

set_option maxHeartbeats 4000000 in
set_option maxRecDepth 100000 in
theorem lw_op_19 {p : Program} {l : Launch} {e : Env} {s : State} {m : MethodId} {below : List Frame} {meth : Method} {c : Code} {Q : State → Prop} {b L : Nat} {xs : Nat → Int32} {dC : Nat → ClassId} {dI : Nat → Nat → Nat} {cA cL : ClassId} {A : Nat → Prop} (E : lwE p l s m c b L xs dC dI cA cL A) {x0 r0 r1 r2 r3 a0 a1 a2 a3 y0 q1 q2 q3 q4 q5 o : Nat} {i : Nat} (hi : i + 4 ≤ L) {cells slots : Nat} (hC : cells + 1 ≤ 1053) (hS9 : slots + 6 ≤ 9402) {rn : Nat} {L0 L1 : List Int32} {H : Heap} {locs : List Loc} (hI : lwI dC dI cA cL A s.heap x0 r0 r1 r2 r3 a0 a1 a2 a3 y0 q1 q2 q3 q4 q5 o rn L0 L1 H locs) {ls : Array Slot} (hl : lv_has ls 9 [(4, .int (nI i)), (3, .ref o), (2, .ref y0), (1, .ref x0), (0, .ref b)])
    (kk : ∀ (rn : Nat) (L0 L1 : List Int32) (H : Heap) (locs : List Loc) (cells1 slots1 : Nat) (ls : Array Slot), lwI dC dI cA cL A s.heap x0 r0 r1 r2 r3 a0 a1 a2 a3 y0 q1 q2 q3 q4 q5 o rn L0 L1 H locs → cells1 ≤ cells + 1 → slots1 ≤ slots + 6 → lv_has ls 9 [(4, .int (nI i)), (3, .ref o), (2, .ref y0), (1, .ref x0), (0, .ref b)] → W p l e room_1 s m #[Value.ref b] below meth c H locs cells1 slots1 Q (F0 m 1241 ls [])) :
    W p l e room_1 s m #[Value.ref b] below meth c H locs cells slots Q (F0 m 1227 ls []) := by
  obtain ⟨hx, hb, hml, hown, hts, hX, hbl, hbA, hA, htr, hKl, hZ, hL2⟩ := E
  obtain ⟨f0, f1, n2, f2, n3, f3, tv, sf, lf, mn, rf, nf, ct, il, gf, fo, hP, hD, hS, hR0, hR1, hl0, hl1, hrn, hr6, hk0, hk1, hW⟩ := hI
  have hK : va_K (dC, dI) vwCl [(cA, .int)] s := hKl.sub [0] rfl
  have hok := V2_ok hk0 hk1
  have hc0 : cells ≤ room_1.cells := (show cells ≤ 1053 from by omega)
  have hs0 : slots ≤ room_1.slots := (show slots ≤ 9402 from by omega)
  have hc1 : cells + 1 ≤ room_1.cells := hC
  have hs1 : slots + 6 ≤ room_1.slots := hS9
  refine lv_aload_n hx hb dL_law_1227 rfl (lv_at hl 3 rfl) ?_
  refine g_MVl (As := []) (rest := []) ⟨hx, hb, hml, hown, hts⟩ (mt_X1_digest l dC dI cA H.size x0 r0 r1 r2 r3 rn a0 a1 L0 f0 L1 f1 a2 n2 f2 a3 n3 f3 hR0 hR1 (by first | omega | (simp only [List.length_append, List.length_cons, List.length_nil, List.length_set, turnL_len]; omega)) (by first | omega | (simp only [List.length_append, List.length_cons, List.length_nil, List.length_set, turnL_len]; omega))) (cwV 0 hts gL_law_X1_digest rfl rfl rfl hdX1_digest ⟨Nat.le_of_ble_eq_true rfl, Nat.le_of_ble_eq_true rfl⟩) hP hK hD hS hA [0, 1, 2, 3, 4, 5, 6, 7, 8] (by decide) rfl (va_recv hK hP (ci := 1) (q0 := 0) rfl rfl) rfl hl.1 rfl (Nat.le_of_ble_eq_true rfl) dL_law_1228 hc0 hs0 (fun u9 => [(x0, .inr (1, [.ref r0, .ref r1, .ref r2, .ref r3, .int (nI rn)])), (r0, .inr (0, [.ref a0, .int (nI L0.length)])), (a0, .inl (cA, (100, .inl f0))), (r1, .inr (0, [.ref a1, .int (nI L1.length)])), (a1, .inl (cA, (100, .inl f1))), (r2, .inr (0, [.ref a2, .int u9.1])), (a2, .inl (cA, (100, .inl u9.2.1))), (r3, .inr (0, [.ref a3, .int u9.2.2.1])), (a3, .inl (cA, (100, .inl u9.2.2.2))), (y0, .inr (2, [.int tv, .int (nI rn), .ref q1, .ref q2, .int mn, .ref q3, .ref q4, .int ct, .int il, .ref q5])), (q1, .inl (cA, (2, .inl sf))), (q2, .inl (cA, (60, .inl lf))), (q3, .inl (cA, (320, .inl rf))), (q4, .inl (cA, (320, .inl nf))), (q5, .inl (cA, (6, .inl gf))), (o, .inl (cL, (1, .inr (.inl fo))))]) (fun _ => rfl) (fun _ => rfl) (fun u H locs hw_5 hP hD hS => ?_)
  obtain ⟨m2_1, g2_2, m3_3, g3_4⟩ := u
  have hw_5 : True := hw_5
  have hP : va_P (dC, dI) vwCl [(x0, .inr (1, [.ref r0, .ref r1, .ref r2, .ref r3, .int (nI rn)])), (r0, .inr (0, [.ref a0, .int (nI L0.length)])), (a0, .inl (cA, (100, .inl f0))), (r1, .inr (0, [.ref a1, .int (nI L1.length)])), (a1, .inl (cA, (100, .inl f1))), (r2, .inr (0, [.ref a2, .int m2_1])), (a2, .inl (cA, (100, .inl g2_2))), (r3, .inr (0, [.ref a3, .int m3_3])), (a3, .inl (cA, (100, .inl g3_4))), (y0, .inr (2, [.int tv, .int (nI rn), .ref q1, .ref q2, .int mn, .ref q3, .ref q4, .int ct, .int il, .ref q5])), (q1, .inl (cA, (2, .inl sf))), (q2, .inl (cA, (60, .inl lf))), (q3, .inl (cA, (320, .inl rf))), (q4, .inl (cA, (320, .inl nf))), (q5, .inl (cA, (6, .inl gf))), (o, .inl (cL, (1, .inr (.inl fo))))] H := hP
  have hD : va_D A [(x0, .inr (1, [.ref r0, .ref r1, .ref r2, .ref r3, .int (nI rn)])), (r0, .inr (0, [.ref a0, .int (nI L0.length)])), (a0, .inl (cA, (100, .inl f0))), (r1, .inr (0, [.ref a1, .int (nI L1.length)])), (a1, .inl (cA, (100, .inl f1))), (r2, .inr (0, [.ref a2, .int m2_1])), (a2, .inl (cA, (100, .inl g2_2))), (r3, .inr (0, [.ref a3, .int m3_3])), (a3, .inl (cA, (100, .inl g3_4))), (y0, .inr (2, [.int tv, .int (nI rn), .ref q1, .ref q2, .int mn, .ref q3, .ref q4, .int ct, .int il, .ref q5])), (q1, .inl (cA, (2, .inl sf))), (q2, .inl (cA, (60, .inl lf))), (q3, .inl (cA, (320, .inl rf))), (q4, .inl (cA, (320, .inl nf))), (q5, .inl (cA, (6, .inl gf))), (o, .inl (cL, (1, .inr (.inl fo))))] := hD
  refine lv_aload_n hx hb dL_law_1231 rfl (lv_at hl 2 rfl) ?_
  refine g_MVl (As := []) (rest := [.long (dg (dg (dgW rn L1 (dgW rn L0 (dg (dg (dg (dg (dg 1511 (coI rn L0 L1 0)) (coI rn L0 L1 1)) (coI rn L0 L1 2)) (coI rn L0 L1 3)) (coI rn L0 L1 4)))) (saI (plain (turnL L0 ++ L1)))) (paI (plain (turnL L0 ++ L1)) 2))]) ⟨hx, hb, hml, hown, hts⟩ (mt_X2_digest l dC dI cA H.size y0 q1 q2 q3 q4 q5 rn tv sf lf mn rf nf ct il gf (V2 L0 L1) hW hrn hr6 hok) (cwV 0 hts gL_law_X2_digest rfl rfl rfl hdX2_digest ⟨Nat.le_of_ble_eq_true rfl, Nat.le_of_ble_eq_true rfl⟩) hP hK hD hS hA [9, 10, 11, 12, 13, 14] (by decide) rfl (va_recv hK hP (ci := 2) (q0 := 9) rfl rfl) rfl hl.1 rfl (Nat.le_of_ble_eq_true rfl) dL_law_1232 hc0 hs0 (fun u9 => [(x0, .inr (1, [.ref r0, .ref r1, .ref r2, .ref r3, .int (nI rn)])), (r0, .inr (0, [.ref a0, .int (nI L0.length)])), (a0, .inl (cA, (100, .inl f0))), (r1, .inr (0, [.ref a1, .int (nI L1.length)])), (a1, .inl (cA, (100, .inl f1))), (r2, .inr (0, [.ref a2, .int m2_1])), (a2, .inl (cA, (100, .inl g2_2))), (r3, .inr (0, [.ref a3, .int m3_3])), (a3, .inl (cA, (100, .inl g3_4))), (y0, .inr (2, [.int 0, .int (nI rn), .ref q1, .ref q2, .int u9.1, .ref q3, .ref q4, .int u9.2.2.2.1, .int u9.2.2.2.2.1, .ref q5])), (q1, .inl (cA, (2, .inl sf))), (q2, .inl (cA, (60, .inl lf))), (q3, .inl (cA, (320, .inl u9.2.1))), (q4, .inl (cA, (320, .inl u9.2.2.1))), (q5, .inl (cA, (6, .inl u9.2.2.2.2.2))), (o, .inl (cL, (1, .inr (.inl fo))))]) (fun _ => rfl) (fun _ => rfl) (fun u H locs hw_12 hP hD hS => ?_)
  obtain ⟨m1_6, r1_7, n1_8, c1_9, i1_10, g9_11⟩ := u
  have hw_12 : True := hw_12
  have hP : va_P (dC, dI) vwCl [(x0, .inr (1, [.ref r0, .ref r1, .ref r2, .ref r3, .int (nI rn)])), (r0, .inr (0, [.ref a0, .int (nI L0.length)])), (a0, .inl (cA, (100, .inl f0))), (r1, .inr (0, [.ref a1, .int (nI L1.length)])), (a1, .inl (cA, (100, .inl f1))), (r2, .inr (0, [.ref a2, .int m2_1])), (a2, .inl (cA, (100, .inl g2_2))), (r3, .inr (0, [.ref a3, .int m3_3])), (a3, .inl (cA, (100, .inl g3_4))), (y0, .inr (2, [.int 0, .int (nI rn), .ref q1, .ref q2, .int m1_6, .ref q3, .ref q4, .int c1_9, .int i1_10, .ref q5])), (q1, .inl (cA, (2, .inl sf))), (q2, .inl (cA, (60, .inl lf))), (q3, .inl (cA, (320, .inl r1_7))), (q4, .inl (cA, (320, .inl n1_8))), (q5, .inl (cA, (6, .inl g9_11))), (o, .inl (cL, (1, .inr (.inl fo))))] H := hP
  have hD : va_D A [(x0, .inr (1, [.ref r0, .ref r1, .ref r2, .ref r3, .int (nI rn)])), (r0, .inr (0, [.ref a0, .int (nI L0.length)])), (a0, .inl (cA, (100, .inl f0))), (r1, .inr (0, [.ref a1, .int (nI L1.length)])), (a1, .inl (cA, (100, .inl f1))), (r2, .inr (0, [.ref a2, .int m2_1])), (a2, .inl (cA, (100, .inl g2_2))), (r3, .inr (0, [.ref a3, .int m3_3])), (a3, .inl (cA, (100, .inl g3_4))), (y0, .inr (2, [.int 0, .int (nI rn), .ref q1, .ref q2, .int m1_6, .ref q3, .ref q4, .int c1_9, .int i1_10, .ref q5])), (q1, .inl (cA, (2, .inl sf))), (q2, .inl (cA, (60, .inl lf))), (q3, .inl (cA, (320, .inl r1_7))), (q4, .inl (cA, (320, .inl n1_8))), (q5, .inl (cA, (6, .inl g9_11))), (o, .inl (cL, (1, .inr (.inl fo))))] := hD
  refine W.lcmp hx hb dL_law_1235 ?_
  rw [show lg_cmp (dg (dg (dgW rn L1 (dgW rn L0 (dg (dg (dg (dg (dg 1511 (coI rn L0 L1 0)) (coI rn L0 L1 1)) (coI rn L0 L1 2)) (coI rn L0 L1 3)) (coI rn L0 L1 4)))) (saI (plain (turnL L0 ++ L1)))) (paI (plain (turnL L0 ++ L1)) 2)) (dg (dg (dgW rn ((V2 L0 L1) 1) (dgW rn ((V2 L0 L1) 0) (dg (dg (dg (dg (dg 1511 (coI rn ((V2 L0 L1) 0) ((V2 L0 L1) 1) 0)) (coI rn ((V2 L0 L1) 0) ((V2 L0 L1) 1) 1)) (coI rn ((V2 L0 L1) 0) ((V2 L0 L1) 1) 2)) (coI rn ((V2 L0 L1) 0) ((V2 L0 L1) 1) 3)) (coI rn ((V2 L0 L1) 0) ((V2 L0 L1) 1) 4)))) (saI (plain (turnL ((V2 L0 L1) 0) ++ (V2 L0 L1) 1)))) (paI (plain (turnL ((V2 L0 L1) 0) ++ (V2 L0 L1) 1)) 2)) = 0 from (lg_cmp_eq _ _).mpr rfl]
  refine lv_if_eq (tgt := 1241) hx hb dL_law_1236 (by decide) (fun c1236 => ?_) (fun c1236 => ?_)
  · have c1236 : 0 = 0 := g_eqT 0 0 (by omega) (by omega) c1236
    exact kk rn L0 L1 _ _ _ _ _ ⟨f0, f1, m2_1, g2_2, m3_3, g3_4, 0, sf, lf, m1_6, r1_7, n1_8, c1_9, i1_10, g9_11, fo, hP, hD, hS, hR0, hR1, hl0, hl1, hrn, hr6, hk0, hk1, hW⟩ (by omega) (by omega) (lv_sub hl [0, 1, 2, 3, 4] rfl)
  · exact absurd (by decide) c1236
