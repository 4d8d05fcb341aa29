/-! 55: a cut by hand -/
theorem hdX2_cat : yX2_cat.cls ≠ "java/lang/invoke/MethodHandle" ∧ yX2_cat.cls ≠ "java/lang/invoke/VarHandle" ∧ (parseMethodDescriptor yX2_cat.desc).map (fun d => d.parameters.length) = some 2 := by decide +kernel
theorem hdX2_piece : yX2_piece.cls ≠ "java/lang/invoke/MethodHandle" ∧ yX2_piece.cls ≠ "java/lang/invoke/VarHandle" ∧ (parseMethodDescriptor yX2_piece.desc).map (fun d => d.parameters.length) = some 3 := by decide +kernel
abbrev mt_X2_cut_rm (L : List Int32) (b9 : Nat) (e9 : Nat) : Room := { frames := 1, cells := 200, slots := (98 * ((cutL L b9 e9).length + 6) + (cutL L b9 e9).length + 300), locals := 24 }
set_option maxHeartbeats 4000000 in
set_option maxRecDepth 100000 in
/-- Sim.cut -/
theorem mt_X2_cut (l : Launch) (dC : Nat → ClassId) (dI : Nat → Nat → Nat) (cA : ClassId) (sz : Nat) (a : Nat) (h : Nat) (L : List Int32) (b9 : Nat) (e9 : Nat) (hL : okW L) (hl1 : L.length ≤ 100) (he2 : e9 < L.length) (hbg : bg L e9 = some b9) : Met l yX2_cut wsX2_cut (mt_X2_cut_rm L b9 e9) (va_Pc [.ref a, .ref h] (gBX xT (dC, dI) [(cA, .int)] [(a, .inl (cA, (L.length, .inl (atL L)))), (h, .inl (cA, ([nI b9, nI e9].length, .inl (atL [nI b9, nI e9]))))] sz)) (gQ (dC, dI) (fun u : Nat => some (.ref u)) (fun u : Nat => True) (fun u : Nat => [(a, .inl (cA, (L.length, .inl (atL L)))), (h, .inl (cA, ([nI b9, nI e9].length, .inl (atL [nI b9, nI e9])))), (u, .inl (cA, ((cutL L b9 e9).length, .inl (atL (cutL L b9 e9)))))]) (va_A [(a, .inl (cA, (L.length, .inl (atL L)))), (h, .inl (cA, ([nI b9, nI e9].length, .inl (atL [nI b9, nI e9]))))] sz)) 200 (98 * ((cutL L b9 e9).length + 6) + (cutL L b9 e9).length + 300) (va_A [(a, .inl (cA, (L.length, .inl (atL L)))), (h, .inl (cA, ([nI b9, nI e9].length, .inl (atL [nI b9, nI e9]))))] sz) := by
  refine g_ofQ (cc := cX2_cut) (maxL := 7) (ret := (some (.array .int))) (by decide) rfl (Nat.le_of_ble_eq_true rfl) (fun p e s m below meth c ls hx hb hr hml hts hown hlocks hP hK hl hin A hA hD hS hXX => ?_)
  have hl : lv_has ls 7 [(0, .ref a), (1, .ref h)] := hl
  have hbe := bg_lt hbg
  have hxb := okW_at hL (show b9 < L.length by omega)
  have hR := cut_le hbe he2 hl1
  obtain ⟨T, hT⟩ : ∃ T, T = (cutL L b9 e9).length + 6 := ⟨_, rfl⟩
  have hl0 : [nI b9, nI e9].length = 2 := rfl
  refine lv_aload_n hx hb dX2_cut_0 rfl (lv_at hl 0 rfl) ?_
  refine lv_aload_n hx hb dX2_cut_1 rfl (lv_at hl 1 rfl) ?_
  refine lv_iconst (v := 0) hx hb dX2_cut_2 (by decide) ?_
  refine va_iald hx hb hK hP 1 0 rfl rfl (vp_in_nI (n := 0) (by omega) (by omega)) dX2_cut_3 ?_
  rw [show (0 : Int32).toNatClampNeg = 0 from by decide]
  rw [show atL [nI b9, nI e9] 0 = nI b9 from rfl]
  refine va_iald hx hb hK hP 0 0 rfl rfl (vp_in_nI (by omega) (by omega)) dX2_cut_4 ?_
  rw [show (nI b9).toNatClampNeg = b9 from nI_clamp (by omega)]
  refine lv_istore_n (lv' := [(2, .int (atL L b9)), (0, .ref a), (1, .ref h)]) hx hb dX2_cut_5 rfl hl (by decide) rfl (fun ls hl => ?_)
  refine lv_iload_n hx hb dX2_cut_6 rfl (lv_at hl 0 rfl) ?_
  refine va_mabs hx hb (hml.trans hl.1.symm) hown (hts (.methodLink RX2 19 Lib.Math.abs.name) (List.mem_of_getElem? (i := 1) rfl)) (hts (.static Lib.Math.abs.name) (List.mem_of_getElem? (i := 2) rfl)) (hts (.initialized "java/lang/Math") (List.mem_of_getElem? (i := 3) rfl)) (hts (.code Lib.Math.abs.name Lib.Math.abs.code 1 (some .int)) (List.mem_of_getElem? (i := 4) rfl)) (Nat.le_of_ble_eq_true rfl) (Nat.le_of_ble_eq_true rfl) (by show _ ≤ 200; omega) (by show _ ≤ (98 * ((cutL L b9 e9).length + 6) + (cutL L b9 e9).length + 300); omega) dX2_cut_7 ?_
  rw [mabs_eq]
  refine lv_iconst (v := 1) hx hb dX2_cut_10 (by decide) ?_
  refine lv_iadd hx hb dX2_cut_11 ?_
  refine lv_istore_n (lv' := [(3, .int ((abI (atL L b9)) + 1)), (2, .int (atL L b9)), (0, .ref a), (1, .ref h)]) hx hb dX2_cut_12 rfl hl (by decide) rfl (fun ls hl => ?_)
  refine lv_aload_n hx hb dX2_cut_13 rfl (lv_at hl 2 rfl) ?_
  refine lv_iconst (v := 0) hx hb dX2_cut_14 (by decide) ?_
  refine lv_aload_n hx hb dX2_cut_15 rfl (lv_at hl 3 rfl) ?_
  refine lv_iconst (v := 0) hx hb dX2_cut_16 (by decide) ?_
  refine va_iald hx hb hK hP 1 0 rfl rfl (vp_in_nI (n := 0) (by omega) (by omega)) dX2_cut_17 ?_
  rw [show (0 : Int32).toNatClampNeg = 0 from by decide]
  rw [show atL [nI b9, nI e9] 0 = nI b9 from rfl]
  refine g_QS xT_st (As := [.ref a, .int 0, .int (nI b9)]) (rest := []) (wr := [(h, .inl (cA, ([nI b9, nI e9].length, .inl (atL [nI b9, nI e9]))))]) ⟨hx, hb, hml, hown, hts⟩ (mt_X2_piece l dC dI cA s.heap.size a L 0 b9 (by first | omega | (simp only [List.length_append, List.length_cons, List.length_nil, List.length_set, turnL_len]; omega)) (by first | omega | (simp only [List.length_append, List.length_cons, List.length_nil, List.length_set, turnL_len]; omega)) (by first | omega | (simp only [List.length_append, List.length_cons, List.length_nil, List.length_set, turnL_len]; omega))) (va_cwS 3 hts gX2_cut_X2_piece rfl rfl rfl hdX2_piece ⟨Nat.le_of_ble_eq_true rfl, Nat.le_of_ble_eq_true rfl⟩) hP hK hD hS hA trivial [0] (by decide) rfl [1] rfl (by decide) (by decide) rfl hl.1 rfl (Nat.le_of_ble_eq_true rfl) dX2_cut_18 (by show _ ≤ 200; omega) (by show _ ≤ (98 * ((cutL L b9 e9).length + 6) + (cutL L b9 e9).length + 300); omega) (fun u H locs hw_2 hP hD hS => ?_)
  obtain ⟨q_1, rfl⟩ : ∃ z, z = u := ⟨_, rfl⟩
  have hw_2 : True := hw_2
  have hP : va_P (dC, dI) vwCl [(h, .inl (cA, ([nI b9, nI e9].length, .inl (atL [nI b9, nI e9])))), (a, .inl (cA, (L.length, .inl (atL L)))), (q_1, .inl (cA, ((pcL L 0 b9).length, .inl (atL (pcL L 0 b9)))))] H := hP
  have hD : va_D A [(h, .inl (cA, ([nI b9, nI e9].length, .inl (atL [nI b9, nI e9])))), (a, .inl (cA, (L.length, .inl (atL L)))), (q_1, .inl (cA, ((pcL L 0 b9).length, .inl (atL (pcL L 0 b9)))))] := hD
  refine W.eq (g2 := F0 m 21 ls [.ref q_1]) rfl ?_
  refine lv_astore (lv' := [(4, .ref q_1), (3, .int ((abI (atL L b9)) + 1)), (2, .int (atL L b9)), (0, .ref a), (1, .ref h)]) hx hb dX2_cut_21 hl (by decide) rfl (fun ls hl => ?_)
  have hP := g_subP hP [1, 0, 2] (wc := [(a, .inl (cA, (L.length, .inl (atL L)))), (h, .inl (cA, ([nI b9, nI e9].length, .inl (atL [nI b9, nI e9])))), (q_1, .inl (cA, ((pcL L 0 b9).length, .inl (atL (pcL L 0 b9)))))]) rfl
  have hD := hD.sub (ws' := [(a, .inl (cA, (L.length, .inl (atL L)))), (h, .inl (cA, ([nI b9, nI e9].length, .inl (atL [nI b9, nI e9])))), (q_1, .inl (cA, ((pcL L 0 b9).length, .inl (atL (pcL L 0 b9)))))]) [1, 0, 2] (by decide) rfl
  rw [show (pcL L 0 b9) = ckL L b9 e9 (b9 + 1) from ck_pre hbe he2] at hP hD
  have hP : va_P (dC, dI) vwCl [(a, .inl (cA, (L.length, .inl (atL L)))), (h, .inl (cA, ([nI b9, nI e9].length, .inl (atL [nI b9, nI e9])))), (q_1, .inl (cA, ((ckL L b9 e9 (b9 + 1)).length, .inl (atL (ckL L b9 e9 (b9 + 1))))))] H := hP
  have hD : va_D A [(a, .inl (cA, (L.length, .inl (atL L)))), (h, .inl (cA, ([nI b9, nI e9].length, .inl (atL [nI b9, nI e9])))), (q_1, .inl (cA, ((ckL L b9 e9 (b9 + 1)).length, .inl (atL (ckL L b9 e9 (b9 + 1))))))] := hD
  refine lv_aload_n hx hb dX2_cut_23 rfl (lv_at hl 4 rfl) ?_
  refine lv_iconst (v := 0) hx hb dX2_cut_24 (by decide) ?_
  refine va_iald hx hb hK hP 1 0 rfl rfl (vp_in_nI (n := 0) (by omega) (by omega)) dX2_cut_25 ?_
  rw [show (0 : Int32).toNatClampNeg = 0 from by decide]
  rw [show atL [nI b9, nI e9] 0 = nI b9 from rfl]
  refine lv_iconst (v := 1) hx hb dX2_cut_26 (by decide) ?_
  refine lv_iadd hx hb dX2_cut_27 ?_
  rw [show (nI b9) + 1 = nI (b9 + 1) from nI_add b9 1]
  refine lv_istore (lv' := [(5, .int (nI (b9 + 1))), (4, .ref q_1), (3, .int ((abI (atL L b9)) + 1)), (2, .int (atL L b9)), (0, .ref a), (1, .ref h)]) hx hb dX2_cut_28 hl (by decide) rfl (fun ls hl => ?_)
  have lp30 : ∀ (d : Nat) (k : Nat) (d9 : Nat) (q : Nat) (hk1 : k = b9 + 1 + d9) (hk2 : k ≤ e9), e9 - k < d → ∀ (cells slots : Nat), cells ≤ 2 * d9 + 1 → slots ≤ d9 * T + b9 → ∀ (H : Heap) (locs : List Loc), va_P (dC, dI) vwCl [(a, .inl (cA, (L.length, .inl (atL L)))), (h, .inl (cA, ([nI b9, nI e9].length, .inl (atL [nI b9, nI e9])))), (q, .inl (cA, ((ckL L b9 e9 k).length, .inl (atL (ckL L b9 e9 k)))))] H → va_D A [(a, .inl (cA, (L.length, .inl (atL L)))), (h, .inl (cA, ([nI b9, nI e9].length, .inl (atL [nI b9, nI e9])))), (q, .inl (cA, ((ckL L b9 e9 k).length, .inl (atL (ckL L b9 e9 k)))))] → va_S A s.heap H locs → ∀ ls : Array Slot, lv_has ls 7 [(5, .int (nI k)), (4, .ref q), (3, .int (abI (atL L b9) + 1)), (2, .int (atL L b9)), (0, .ref a), (1, .ref h)] → W p l e (mt_X2_cut_rm L b9 e9) s m ([.ref a, .ref h] : List Value).toArray below meth c H locs cells slots (MQ below (gQ (dC, dI) (fun u : Nat => some (.ref u)) (fun u : Nat => True) (fun u : Nat => [(a, .inl (cA, (L.length, .inl (atL L)))), (h, .inl (cA, ([nI b9, nI e9].length, .inl (atL [nI b9, nI e9])))), (u, .inl (cA, ((cutL L b9 e9).length, .inl (atL (cutL L b9 e9)))))]) A) ([.ref a, .ref h] : List Value).toArray s 200 (98 * ((cutL L b9 e9).length + 6) + (cutL L b9 e9).length + 300) A) (F0 m 30 ls []) := by
    intro d
    induction d with
    | zero => intro k d9 q hk1 hk2 hd; exact absurd hd (Nat.not_lt_zero _)
    | succ d ih30 =>
      intro k d9 q hk1 hk2 hd cells slots hcz hsz H locs hP hD hS ls hl
      have hTs : (d9 + 1) * T = d9 * T + T := Nat.succ_mul d9 T
      have hm0 : (ckL L b9 e9 k).length ≤ (cutL L b9 e9).length := ckL_mono (by omega)
      have hdT := Nat.mul_le_mul_right T (show d9 ≤ 98 by omega)
      refine lv_iload hx hb dX2_cut_30 (lv_at hl 0 rfl) ?_
      refine lv_aload_n hx hb dX2_cut_32 rfl (lv_at hl 5 rfl) ?_
      refine lv_iconst (v := 1) hx hb dX2_cut_33 (by decide) ?_
      refine va_iald hx hb hK hP 1 0 rfl rfl (vp_in_nI (n := 1) (by omega) (by omega)) dX2_cut_34 ?_
      rw [show (1 : Int32).toNatClampNeg = 1 from by decide]
      rw [show atL [nI b9, nI e9] 1 = nI e9 from rfl]
      refine lv_icmp_ge (tgt := 152) hx hb dX2_cut_35 (by decide) (fun c35 => ?_) (fun c35 => ?_)
      · have hke : k = e9 := by have := g_geT k e9 (by omega) (by omega) c35; omega
        rw [hke] at hP hD
        have hP : va_P (dC, dI) vwCl [(a, .inl (cA, (L.length, .inl (atL L)))), (h, .inl (cA, ([nI b9, nI e9].length, .inl (atL [nI b9, nI e9])))), (q, .inl (cA, ((ckL L b9 e9 e9).length, .inl (atL (ckL L b9 e9 e9)))))] H := hP
        have hD : va_D A [(a, .inl (cA, (L.length, .inl (atL L)))), (h, .inl (cA, ([nI b9, nI e9].length, .inl (atL [nI b9, nI e9])))), (q, .inl (cA, ((ckL L b9 e9 e9).length, .inl (atL (ckL L b9 e9 e9)))))] := hD
        have hm9 : (ckL L b9 e9 e9).length ≤ (cutL L b9 e9).length := ckL_mono (by omega)
        refine lv_aload hx hb dX2_cut_152 (lv_at hl 1 rfl) ?_
        refine lv_aload_n hx hb dX2_cut_154 rfl (lv_at hl 4 rfl) ?_
        refine lv_aload_n hx hb dX2_cut_155 rfl (lv_at hl 5 rfl) ?_
        refine lv_iconst (v := 1) hx hb dX2_cut_156 (by decide) ?_
        refine va_iald hx hb hK hP 1 0 rfl rfl (vp_in_nI (n := 1) (by omega) (by omega)) dX2_cut_157 ?_
        rw [show (1 : Int32).toNatClampNeg = 1 from by decide]
        rw [show atL [nI b9, nI e9] 1 = nI e9 from rfl]
        refine lv_iconst (v := 1) hx hb dX2_cut_158 (by decide) ?_
        refine lv_iadd hx hb dX2_cut_159 ?_
        rw [show (nI e9) + 1 = nI (e9 + 1) from nI_add e9 1]
        refine lv_aload_n hx hb dX2_cut_160 rfl (lv_at hl 4 rfl) ?_
        refine va_alen (v := nI L.length) hx hb hK hP 0 0 rfl rfl rfl dX2_cut_161 ?_
        refine g_QS xT_st (As := [.ref a, .int (nI (e9 + 1)), .int (nI L.length)]) (rest := [.ref q]) (wr := [(h, .inl (cA, ([nI b9, nI e9].length, .inl (atL [nI b9, nI e9])))), (q, .inl (cA, ((ckL L b9 e9 e9).length, .inl (atL (ckL L b9 e9 e9)))))]) ⟨hx, hb, hml, hown, hts⟩ (mt_X2_piece l dC dI cA H.size a L (e9 + 1) L.length (by first | omega | (simp only [List.length_append, List.length_cons, List.length_nil, List.length_set, turnL_len]; omega)) (by first | omega | (simp only [List.length_append, List.length_cons, List.length_nil, List.length_set, turnL_len]; omega)) (by first | omega | (simp only [List.length_append, List.length_cons, List.length_nil, List.length_set, turnL_len]; omega))) (va_cwS 3 hts gX2_cut_X2_piece rfl rfl rfl hdX2_piece ⟨Nat.le_of_ble_eq_true rfl, Nat.le_of_ble_eq_true rfl⟩) hP hK hD hS hA trivial [0] (by decide) rfl [1, 2] rfl (by decide) (by decide) rfl hl.1 rfl (Nat.le_of_ble_eq_true rfl) dX2_cut_162 (by show _ ≤ 200; omega) (by show _ ≤ (98 * ((cutL L b9 e9).length + 6) + (cutL L b9 e9).length + 300); omega) (fun u H locs hw_4 hP hD hS => ?_)
        obtain ⟨q_3, rfl⟩ : ∃ z, z = u := ⟨_, rfl⟩
        have hw_4 : True := hw_4
        have hP : va_P (dC, dI) vwCl [(h, .inl (cA, ([nI b9, nI e9].length, .inl (atL [nI b9, nI e9])))), (q, .inl (cA, ((ckL L b9 e9 e9).length, .inl (atL (ckL L b9 e9 e9))))), (a, .inl (cA, (L.length, .inl (atL L)))), (q_3, .inl (cA, ((pcL L (e9 + 1) L.length).length, .inl (atL (pcL L (e9 + 1) L.length)))))] H := hP
        have hD : va_D A [(h, .inl (cA, ([nI b9, nI e9].length, .inl (atL [nI b9, nI e9])))), (q, .inl (cA, ((ckL L b9 e9 e9).length, .inl (atL (ckL L b9 e9 e9))))), (a, .inl (cA, (L.length, .inl (atL L)))), (q_3, .inl (cA, ((pcL L (e9 + 1) L.length).length, .inl (atL (pcL L (e9 + 1) L.length)))))] := hD
        refine W.eq (g2 := F0 m 165 ls [.ref q_3, .ref q]) rfl ?_
        have hpl : (pcL L (e9 + 1) L.length).length = L.length - (e9 + 1) := pcL_len (by omega) (Nat.le_refl _)
        refine g_QS xT_st (As := [.ref q, .ref q_3]) (rest := []) (wr := [(h, .inl (cA, ([nI b9, nI e9].length, .inl (atL [nI b9, nI e9])))), (a, .inl (cA, (L.length, .inl (atL L))))]) ⟨hx, hb, hml, hown, hts⟩ (mt_X2_cat l dC dI cA H.size q q_3 (ckL L b9 e9 e9) (pcL L (e9 + 1) L.length) (by first | omega | (simp only [List.length_append, List.length_cons, List.length_nil, List.length_set, turnL_len]; omega))) (va_cwS 2 hts gX2_cut_X2_cat rfl rfl rfl hdX2_cat ⟨Nat.le_of_ble_eq_true rfl, Nat.le_of_ble_eq_true rfl⟩) hP hK hD hS hA trivial [1, 3] (by decide) rfl [0, 2] rfl (by decide) (by decide) rfl hl.1 rfl (Nat.le_of_ble_eq_true rfl) dX2_cut_165 (by show _ ≤ 200; omega) (by show _ ≤ (98 * ((cutL L b9 e9).length + 6) + (cutL L b9 e9).length + 300); omega) (fun u H locs hw_6 hP hD hS => ?_)
        obtain ⟨q_5, rfl⟩ : ∃ z, z = u := ⟨_, rfl⟩
        have hw_6 : True := hw_6
        have hP : va_P (dC, dI) vwCl [(h, .inl (cA, ([nI b9, nI e9].length, .inl (atL [nI b9, nI e9])))), (a, .inl (cA, (L.length, .inl (atL L)))), (q, .inl (cA, ((ckL L b9 e9 e9).length, .inl (atL (ckL L b9 e9 e9))))), (q_3, .inl (cA, ((pcL L (e9 + 1) L.length).length, .inl (atL (pcL L (e9 + 1) L.length))))), (q_5, .inl (cA, (((ckL L b9 e9 e9) ++ (pcL L (e9 + 1) L.length)).length, .inl (atL ((ckL L b9 e9 e9) ++ (pcL L (e9 + 1) L.length))))))] H := hP
        have hD : va_D A [(h, .inl (cA, ([nI b9, nI e9].length, .inl (atL [nI b9, nI e9])))), (a, .inl (cA, (L.length, .inl (atL L)))), (q, .inl (cA, ((ckL L b9 e9 e9).length, .inl (atL (ckL L b9 e9 e9))))), (q_3, .inl (cA, ((pcL L (e9 + 1) L.length).length, .inl (atL (pcL L (e9 + 1) L.length))))), (q_5, .inl (cA, (((ckL L b9 e9 e9) ++ (pcL L (e9 + 1) L.length)).length, .inl (atL ((ckL L b9 e9 e9) ++ (pcL L (e9 + 1) L.length))))))] := hD
        refine W.eq (g2 := F0 m 168 ls [.ref q_5]) rfl ?_
        have hP := g_subP hP [1, 0, 4] (wc := [(a, .inl (cA, (L.length, .inl (atL L)))), (h, .inl (cA, ([nI b9, nI e9].length, .inl (atL [nI b9, nI e9])))), (q_5, .inl (cA, (((ckL L b9 e9 e9) ++ (pcL L (e9 + 1) L.length)).length, .inl (atL ((ckL L b9 e9 e9) ++ (pcL L (e9 + 1) L.length))))))]) rfl
        have hD := hD.sub (ws' := [(a, .inl (cA, (L.length, .inl (atL L)))), (h, .inl (cA, ([nI b9, nI e9].length, .inl (atL [nI b9, nI e9])))), (q_5, .inl (cA, (((ckL L b9 e9 e9) ++ (pcL L (e9 + 1) L.length)).length, .inl (atL ((ckL L b9 e9 e9) ++ (pcL L (e9 + 1) L.length))))))]) [1, 0, 4] (by decide) rfl
        rw [show ((ckL L b9 e9 e9) ++ (pcL L (e9 + 1) L.length)) = cutL L b9 e9 from ck_end hbe he2] at hP hD
        have hP : va_P (dC, dI) vwCl [(a, .inl (cA, (L.length, .inl (atL L)))), (h, .inl (cA, ([nI b9, nI e9].length, .inl (atL [nI b9, nI e9])))), (q_5, .inl (cA, ((cutL L b9 e9).length, .inl (atL (cutL L b9 e9)))))] H := hP
        have hD : va_D A [(a, .inl (cA, (L.length, .inl (atL L)))), (h, .inl (cA, ([nI b9, nI e9].length, .inl (atL [nI b9, nI e9])))), (q_5, .inl (cA, ((cutL L b9 e9).length, .inl (atL (cutL L b9 e9)))))] := hD
        exact g_endQa hx hb hr (Or.inr ⟨_, rfl⟩) (Or.inr ⟨_, rfl⟩) hlocks hP hD hS dX2_cut_168 q_5 rfl rfl trivial (by omega) (by omega)
      · have c35 : k < e9 := g_geF k e9 (by omega) (by omega) c35
        have hy := okW_at hL (show k < L.length by omega)
        have hdT := Nat.mul_le_mul_right T (show d9 ≤ 97 by omega)
        refine lv_aload_n hx hb dX2_cut_38 rfl (lv_at hl 4 rfl) ?_
        refine lv_iload hx hb dX2_cut_39 (lv_at hl 0 rfl) ?_
        refine va_iald hx hb hK hP 0 0 rfl rfl (vp_in_nI (by omega) (by omega)) dX2_cut_41 ?_
        rw [show (nI k).toNatClampNeg = k from nI_clamp (by omega)]
        refine lv_istore (lv' := [(6, .int (atL L k)), (5, .int (nI k)), (4, .ref q), (3, .int (abI (atL L b9) + 1)), (2, .int (atL L b9)), (0, .ref a), (1, .ref h)]) hx hb dX2_cut_42 hl (by decide) rfl (fun ls hl => ?_)
        refine lv_iload hx hb dX2_cut_44 (lv_at hl 0 rfl) ?_
        refine lv_iload_n hx hb dX2_cut_46 rfl (lv_at hl 3 rfl) ?_
        refine lv_icmp_eq (tgt := 75) hx hb dX2_cut_47 (by decide) (fun c47 => ?_) (fun c47 => ?_)
        · have hup : abI (atL L k) = abI (atL L b9) + 1 := (okx_ab _ hxb _ hy).1 c47
          refine lv_iload_n hx hb dX2_cut_75 rfl (lv_at hl 4 rfl) ?_
          refine lv_if_le (tgt := 113) hx hb dX2_cut_76 (by decide) (fun c76 => ?_) (fun c76 => ?_)
          · refine lv_aload hx hb dX2_cut_113 (lv_at hl 2 rfl) ?_
            refine lv_iconst (v := 3) hx hb dX2_cut_115 (by decide) ?_
            refine va_newa (atype := .int) (ty := .int) (a0 := (3, .inl (fun _ => 0))) (N' := 3) hx hb (hts (.arrayClass .int) (List.mem_of_getElem? (i := 5) rfl)) rfl hK hP hD hS hA (fun _ => rfl) (by decide) (by decide) (by decide) (by show _ ≤ 200; omega) (by show _ ≤ (98 * ((cutL L b9 e9).length + 6) + (cutL L b9 e9).length + 300); omega) dX2_cut_116 (fun nq_7 cA_8 H hK9 hP hD hS => ?_)
            have eA9 : cA_8 = cA := Option.some.inj ((hK9.2 1 _ rfl).2.symm.trans (hK.2 0 _ rfl).2)
            rw [eA9] at hP hD
            have hP : va_P (dC, dI) vwCl [(a, .inl (cA, (L.length, .inl (atL L)))), (h, .inl (cA, ([nI b9, nI e9].length, .inl (atL [nI b9, nI e9])))), (q, .inl (cA, ((ckL L b9 e9 k).length, .inl (atL (ckL L b9 e9 k))))), (nq_7, .inl (cA, (3, .inl (fun _ => 0))))] H := hP
            have hD : va_D A [(a, .inl (cA, (L.length, .inl (atL L)))), (h, .inl (cA, ([nI b9, nI e9].length, .inl (atL [nI b9, nI e9])))), (q, .inl (cA, ((ckL L b9 e9 k).length, .inl (atL (ckL L b9 e9 k))))), (nq_7, .inl (cA, (3, .inl (fun _ => 0))))] := hD
            refine lv_dup hx hb dX2_cut_118 rfl ?_
            refine lv_iconst (v := 0) hx hb dX2_cut_119 (by decide) ?_
            refine lv_iload_n hx hb dX2_cut_120 rfl (lv_at hl 3 rfl) ?_
            refine va_iast hx hb hK hP hD hS 3 0 rfl rfl (vp_in_nI (n := 0) (by omega) (by decide)) dX2_cut_121 (fun H locs hP hD hS => ?_)
            rw [show (0 : Int32).toNatClampNeg = 0 from by decide] at hP hD
            have hP : va_P (dC, dI) vwCl [(a, .inl (cA, (L.length, .inl (atL L)))), (h, .inl (cA, ([nI b9, nI e9].length, .inl (atL [nI b9, nI e9])))), (q, .inl (cA, ((ckL L b9 e9 k).length, .inl (atL (ckL L b9 e9 k))))), (nq_7, .inl (cA, (3, .inl (upd (fun _ => 0) 0 (abI (atL L b9) + 1)))))] H := hP
            have hD : va_D A [(a, .inl (cA, (L.length, .inl (atL L)))), (h, .inl (cA, ([nI b9, nI e9].length, .inl (atL [nI b9, nI e9])))), (q, .inl (cA, ((ckL L b9 e9 k).length, .inl (atL (ckL L b9 e9 k))))), (nq_7, .inl (cA, (3, .inl (upd (fun _ => 0) 0 (abI (atL L b9) + 1)))))] := hD
            refine lv_dup hx hb dX2_cut_122 rfl ?_
            refine lv_iconst (v := 1) hx hb dX2_cut_123 (by decide) ?_
            refine lv_iload hx hb dX2_cut_124 (lv_at hl 0 rfl) ?_
            refine lv_if_le (tgt := 134) hx hb dX2_cut_126 (by decide) (fun c126 => ?_) (fun c126 => ?_)
            · refine lv_iload_n hx hb dX2_cut_134 rfl (lv_at hl 4 rfl) ?_
              refine va_iast hx hb hK hP hD hS 3 0 rfl rfl (vp_in_nI (n := 1) (by omega) (by decide)) dX2_cut_135 (fun H locs hP hD hS => ?_)
              rw [show (1 : Int32).toNatClampNeg = 1 from by decide] at hP hD
              have hP : va_P (dC, dI) vwCl [(a, .inl (cA, (L.length, .inl (atL L)))), (h, .inl (cA, ([nI b9, nI e9].length, .inl (atL [nI b9, nI e9])))), (q, .inl (cA, ((ckL L b9 e9 k).length, .inl (atL (ckL L b9 e9 k))))), (nq_7, .inl (cA, (3, .inl (upd (upd (fun _ => 0) 0 (abI (atL L b9) + 1)) 1 (atL L b9)))))] H := hP
              have hD : va_D A [(a, .inl (cA, (L.length, .inl (atL L)))), (h, .inl (cA, ([nI b9, nI e9].length, .inl (atL [nI b9, nI e9])))), (q, .inl (cA, ((ckL L b9 e9 k).length, .inl (atL (ckL L b9 e9 k))))), (nq_7, .inl (cA, (3, .inl (upd (upd (fun _ => 0) 0 (abI (atL L b9) + 1)) 1 (atL L b9)))))] := hD
              refine lv_dup hx hb dX2_cut_136 rfl ?_
              refine lv_iconst (v := 2) hx hb dX2_cut_137 (by decide) ?_
              refine lv_iload_n hx hb dX2_cut_138 rfl (lv_at hl 3 rfl) ?_
              refine lv_ineg hx hb dX2_cut_139 ?_
              refine va_iast hx hb hK hP hD hS 3 0 rfl rfl (vp_in_nI (n := 2) (by omega) (by decide)) dX2_cut_140 (fun H locs hP hD hS => ?_)
              rw [show (2 : Int32).toNatClampNeg = 2 from by decide] at hP hD
              have hP : va_P (dC, dI) vwCl [(a, .inl (cA, (L.length, .inl (atL L)))), (h, .inl (cA, ([nI b9, nI e9].length, .inl (atL [nI b9, nI e9])))), (q, .inl (cA, ((ckL L b9 e9 k).length, .inl (atL (ckL L b9 e9 k))))), (nq_7, .inl (cA, (3, .inl (upd (upd (upd (fun _ => 0) 0 (abI (atL L b9) + 1)) 1 (atL L b9)) 2 (-(abI (atL L b9) + 1))))))] H := hP
              have hD : va_D A [(a, .inl (cA, (L.length, .inl (atL L)))), (h, .inl (cA, ([nI b9, nI e9].length, .inl (atL [nI b9, nI e9])))), (q, .inl (cA, ((ckL L b9 e9 k).length, .inl (atL (ckL L b9 e9 k))))), (nq_7, .inl (cA, (3, .inl (upd (upd (upd (fun _ => 0) 0 (abI (atL L b9) + 1)) 1 (atL L b9)) 2 (-(abI (atL L b9) + 1))))))] := hD
              have hP := va_canon hP 3 rfl [abI (atL L b9) + 1, atL L b9, -(abI (atL L b9) + 1)] rfl ar3
              have hD := va_canonD hD 3 rfl [abI (atL L b9) + 1, atL L b9, -(abI (atL L b9) + 1)] (cA := cA)
              have hP : va_P (dC, dI) vwCl [(a, .inl (cA, (L.length, .inl (atL L)))), (h, .inl (cA, ([nI b9, nI e9].length, .inl (atL [nI b9, nI e9])))), (q, .inl (cA, ((ckL L b9 e9 k).length, .inl (atL (ckL L b9 e9 k))))), (nq_7, .inl (cA, ([abI (atL L b9) + 1, atL L b9, -(abI (atL L b9) + 1)].length, .inl (atL [abI (atL L b9) + 1, atL L b9, -(abI (atL L b9) + 1)]))))] H := hP
              have hD : va_D A [(a, .inl (cA, (L.length, .inl (atL L)))), (h, .inl (cA, ([nI b9, nI e9].length, .inl (atL [nI b9, nI e9])))), (q, .inl (cA, ((ckL L b9 e9 k).length, .inl (atL (ckL L b9 e9 k))))), (nq_7, .inl (cA, ([abI (atL L b9) + 1, atL L b9, -(abI (atL L b9) + 1)].length, .inl (atL [abI (atL L b9) + 1, atL L b9, -(abI (atL L b9) + 1)]))))] := hD
              have hl_9 : [abI (atL L b9) + 1, atL L b9, -(abI (atL L b9) + 1)].length = 3 := rfl
              refine g_QS xT_st (As := [.ref q, .ref nq_7]) (rest := []) (wr := [(a, .inl (cA, (L.length, .inl (atL L)))), (h, .inl (cA, ([nI b9, nI e9].length, .inl (atL [nI b9, nI e9]))))]) ⟨hx, hb, hml, hown, hts⟩ (mt_X2_cat l dC dI cA H.size q nq_7 (ckL L b9 e9 k) [abI (atL L b9) + 1, atL L b9, -(abI (atL L b9) + 1)] (by first | omega | (simp only [List.length_append, List.length_cons, List.length_nil, List.length_set, turnL_len]; omega))) (va_cwS 2 hts gX2_cut_X2_cat rfl rfl rfl hdX2_cat ⟨Nat.le_of_ble_eq_true rfl, Nat.le_of_ble_eq_true rfl⟩) hP hK hD hS hA trivial [2, 3] (by decide) rfl [0, 1] rfl (by decide) (by decide) rfl hl.1 rfl (Nat.le_of_ble_eq_true rfl) dX2_cut_141 (by show _ ≤ 200; omega) (by show _ ≤ (98 * ((cutL L b9 e9).length + 6) + (cutL L b9 e9).length + 300); omega) (fun u H locs hw_11 hP hD hS => ?_)
              obtain ⟨q_10, rfl⟩ : ∃ z, z = u := ⟨_, rfl⟩
              have hw_11 : True := hw_11
              have hP : va_P (dC, dI) vwCl [(a, .inl (cA, (L.length, .inl (atL L)))), (h, .inl (cA, ([nI b9, nI e9].length, .inl (atL [nI b9, nI e9])))), (q, .inl (cA, ((ckL L b9 e9 k).length, .inl (atL (ckL L b9 e9 k))))), (nq_7, .inl (cA, ([abI (atL L b9) + 1, atL L b9, -(abI (atL L b9) + 1)].length, .inl (atL [abI (atL L b9) + 1, atL L b9, -(abI (atL L b9) + 1)])))), (q_10, .inl (cA, (((ckL L b9 e9 k) ++ [abI (atL L b9) + 1, atL L b9, -(abI (atL L b9) + 1)]).length, .inl (atL ((ckL L b9 e9 k) ++ [abI (atL L b9) + 1, atL L b9, -(abI (atL L b9) + 1)])))))] H := hP
              have hD : va_D A [(a, .inl (cA, (L.length, .inl (atL L)))), (h, .inl (cA, ([nI b9, nI e9].length, .inl (atL [nI b9, nI e9])))), (q, .inl (cA, ((ckL L b9 e9 k).length, .inl (atL (ckL L b9 e9 k))))), (nq_7, .inl (cA, ([abI (atL L b9) + 1, atL L b9, -(abI (atL L b9) + 1)].length, .inl (atL [abI (atL L b9) + 1, atL L b9, -(abI (atL L b9) + 1)])))), (q_10, .inl (cA, (((ckL L b9 e9 k) ++ [abI (atL L b9) + 1, atL L b9, -(abI (atL L b9) + 1)]).length, .inl (atL ((ckL L b9 e9 k) ++ [abI (atL L b9) + 1, atL L b9, -(abI (atL L b9) + 1)])))))] := hD
              refine W.eq (g2 := F0 m 144 ls [.ref q_10]) rfl ?_
              refine lv_astore (lv' := [(4, .ref q_10), (6, .int (atL L k)), (5, .int (nI k)), (3, .int (abI (atL L b9) + 1)), (2, .int (atL L b9)), (0, .ref a), (1, .ref h)]) hx hb dX2_cut_144 hl (by decide) rfl (fun ls hl => ?_)
              refine lv_iinc (v := nI (k + 1)) (lv' := [(5, .int (nI (k + 1))), (4, .ref q_10), (6, .int (atL L k)), (3, .int (abI (atL L b9) + 1)), (2, .int (atL L b9)), (0, .ref a), (1, .ref h)]) hx hb dX2_cut_146 hl (k := 2) rfl (g_inc _) (by decide) rfl (fun ls hl => ?_)
              refine lv_goto (tgt := 30) hx hb dX2_cut_149 (by decide) ?_
              have hP := g_subP hP [0, 1, 4] (wc := [(a, .inl (cA, (L.length, .inl (atL L)))), (h, .inl (cA, ([nI b9, nI e9].length, .inl (atL [nI b9, nI e9])))), (q_10, .inl (cA, (((ckL L b9 e9 k) ++ [abI (atL L b9) + 1, atL L b9, -(abI (atL L b9) + 1)]).length, .inl (atL ((ckL L b9 e9 k) ++ [abI (atL L b9) + 1, atL L b9, -(abI (atL L b9) + 1)])))))]) rfl
              have hD := hD.sub (ws' := [(a, .inl (cA, (L.length, .inl (atL L)))), (h, .inl (cA, ([nI b9, nI e9].length, .inl (atL [nI b9, nI e9])))), (q_10, .inl (cA, (((ckL L b9 e9 k) ++ [abI (atL L b9) + 1, atL L b9, -(abI (atL L b9) + 1)]).length, .inl (atL ((ckL L b9 e9 k) ++ [abI (atL L b9) + 1, atL L b9, -(abI (atL L b9) + 1)])))))]) [0, 1, 4] (by decide) rfl
              rw [show ((ckL L b9 e9 k) ++ [abI (atL L b9) + 1, atL L b9, -(abI (atL L b9) + 1)]) = ckL L b9 e9 (k + 1) from by rw [(okx_cut _ hxb _ hy).2.2.2 c76 c126]; exact ck3 (by omega) c35 hup] at hP hD
              have hP : va_P (dC, dI) vwCl [(a, .inl (cA, (L.length, .inl (atL L)))), (h, .inl (cA, ([nI b9, nI e9].length, .inl (atL [nI b9, nI e9])))), (q_10, .inl (cA, ((ckL L b9 e9 (k + 1)).length, .inl (atL (ckL L b9 e9 (k + 1))))))] H := hP
              have hD : va_D A [(a, .inl (cA, (L.length, .inl (atL L)))), (h, .inl (cA, ([nI b9, nI e9].length, .inl (atL [nI b9, nI e9])))), (q_10, .inl (cA, ((ckL L b9 e9 (k + 1)).length, .inl (atL (ckL L b9 e9 (k + 1))))))] := hD
              exact ih30 (k + 1) (d9 + 1) q_10 (by omega) (by omega) (by omega) _ _ (by omega) (by omega) _ _ hP hD hS _ (lv_sub hl [0, 1, 3, 4, 5, 6] rfl)
            · refine lv_iload_n hx hb dX2_cut_129 rfl (lv_at hl 4 rfl) ?_
              refine lv_ineg hx hb dX2_cut_130 ?_
              refine lv_goto (tgt := 135) hx hb dX2_cut_131 (by decide) ?_
              refine va_iast hx hb hK hP hD hS 3 0 rfl rfl (vp_in_nI (n := 1) (by omega) (by decide)) dX2_cut_135 (fun H locs hP hD hS => ?_)
              rw [show (1 : Int32).toNatClampNeg = 1 from by decide] at hP hD
              have hP : va_P (dC, dI) vwCl [(a, .inl (cA, (L.length, .inl (atL L)))), (h, .inl (cA, ([nI b9, nI e9].length, .inl (atL [nI b9, nI e9])))), (q, .inl (cA, ((ckL L b9 e9 k).length, .inl (atL (ckL L b9 e9 k))))), (nq_7, .inl (cA, (3, .inl (upd (upd (fun _ => 0) 0 (abI (atL L b9) + 1)) 1 (-(atL L b9))))))] H := hP
              have hD : va_D A [(a, .inl (cA, (L.length, .inl (atL L)))), (h, .inl (cA, ([nI b9, nI e9].length, .inl (atL [nI b9, nI e9])))), (q, .inl (cA, ((ckL L b9 e9 k).length, .inl (atL (ckL L b9 e9 k))))), (nq_7, .inl (cA, (3, .inl (upd (upd (fun _ => 0) 0 (abI (atL L b9) + 1)) 1 (-(atL L b9))))))] := hD
              refine lv_dup hx hb dX2_cut_136 rfl ?_
              refine lv_iconst (v := 2) hx hb dX2_cut_137 (by decide) ?_
              refine lv_iload_n hx hb dX2_cut_138 rfl (lv_at hl 3 rfl) ?_
              refine lv_ineg hx hb dX2_cut_139 ?_
              refine va_iast hx hb hK hP hD hS 3 0 rfl rfl (vp_in_nI (n := 2) (by omega) (by decide)) dX2_cut_140 (fun H locs hP hD hS => ?_)
              rw [show (2 : Int32).toNatClampNeg = 2 from by decide] at hP hD
              have hP : va_P (dC, dI) vwCl [(a, .inl (cA, (L.length, .inl (atL L)))), (h, .inl (cA, ([nI b9, nI e9].length, .inl (atL [nI b9, nI e9])))), (q, .inl (cA, ((ckL L b9 e9 k).length, .inl (atL (ckL L b9 e9 k))))), (nq_7, .inl (cA, (3, .inl (upd (upd (upd (fun _ => 0) 0 (abI (atL L b9) + 1)) 1 (-(atL L b9))) 2 (-(abI (atL L b9) + 1))))))] H := hP
              have hD : va_D A [(a, .inl (cA, (L.length, .inl (atL L)))), (h, .inl (cA, ([nI b9, nI e9].length, .inl (atL [nI b9, nI e9])))), (q, .inl (cA, ((ckL L b9 e9 k).length, .inl (atL (ckL L b9 e9 k))))), (nq_7, .inl (cA, (3, .inl (upd (upd (upd (fun _ => 0) 0 (abI (atL L b9) + 1)) 1 (-(atL L b9))) 2 (-(abI (atL L b9) + 1))))))] := hD
              have hP := va_canon hP 3 rfl [abI (atL L b9) + 1, -(atL L b9), -(abI (atL L b9) + 1)] rfl ar3
              have hD := va_canonD hD 3 rfl [abI (atL L b9) + 1, -(atL L b9), -(abI (atL L b9) + 1)] (cA := cA)
              have hP : va_P (dC, dI) vwCl [(a, .inl (cA, (L.length, .inl (atL L)))), (h, .inl (cA, ([nI b9, nI e9].length, .inl (atL [nI b9, nI e9])))), (q, .inl (cA, ((ckL L b9 e9 k).length, .inl (atL (ckL L b9 e9 k))))), (nq_7, .inl (cA, ([abI (atL L b9) + 1, -(atL L b9), -(abI (atL L b9) + 1)].length, .inl (atL [abI (atL L b9) + 1, -(atL L b9), -(abI (atL L b9) + 1)]))))] H := hP
              have hD : va_D A [(a, .inl (cA, (L.length, .inl (atL L)))), (h, .inl (cA, ([nI b9, nI e9].length, .inl (atL [nI b9, nI e9])))), (q, .inl (cA, ((ckL L b9 e9 k).length, .inl (atL (ckL L b9 e9 k))))), (nq_7, .inl (cA, ([abI (atL L b9) + 1, -(atL L b9), -(abI (atL L b9) + 1)].length, .inl (atL [abI (atL L b9) + 1, -(atL L b9), -(abI (atL L b9) + 1)]))))] := hD
              have hl_12 : [abI (atL L b9) + 1, -(atL L b9), -(abI (atL L b9) + 1)].length = 3 := rfl
              refine g_QS xT_st (As := [.ref q, .ref nq_7]) (rest := []) (wr := [(a, .inl (cA, (L.length, .inl (atL L)))), (h, .inl (cA, ([nI b9, nI e9].length, .inl (atL [nI b9, nI e9]))))]) ⟨hx, hb, hml, hown, hts⟩ (mt_X2_cat l dC dI cA H.size q nq_7 (ckL L b9 e9 k) [abI (atL L b9) + 1, -(atL L b9), -(abI (atL L b9) + 1)] (by first | omega | (simp only [List.length_append, List.length_cons, List.length_nil, List.length_set, turnL_len]; omega))) (va_cwS 2 hts gX2_cut_X2_cat rfl rfl rfl hdX2_cat ⟨Nat.le_of_ble_eq_true rfl, Nat.le_of_ble_eq_true rfl⟩) hP hK hD hS hA trivial [2, 3] (by decide) rfl [0, 1] rfl (by decide) (by decide) rfl hl.1 rfl (Nat.le_of_ble_eq_true rfl) dX2_cut_141 (by show _ ≤ 200; omega) (by show _ ≤ (98 * ((cutL L b9 e9).length + 6) + (cutL L b9 e9).length + 300); omega) (fun u H locs hw_14 hP hD hS => ?_)
              obtain ⟨q_13, rfl⟩ : ∃ z, z = u := ⟨_, rfl⟩
              have hw_14 : True := hw_14
              have hP : va_P (dC, dI) vwCl [(a, .inl (cA, (L.length, .inl (atL L)))), (h, .inl (cA, ([nI b9, nI e9].length, .inl (atL [nI b9, nI e9])))), (q, .inl (cA, ((ckL L b9 e9 k).length, .inl (atL (ckL L b9 e9 k))))), (nq_7, .inl (cA, ([abI (atL L b9) + 1, -(atL L b9), -(abI (atL L b9) + 1)].length, .inl (atL [abI (atL L b9) + 1, -(atL L b9), -(abI (atL L b9) + 1)])))), (q_13, .inl (cA, (((ckL L b9 e9 k) ++ [abI (atL L b9) + 1, -(atL L b9), -(abI (atL L b9) + 1)]).length, .inl (atL ((ckL L b9 e9 k) ++ [abI (atL L b9) + 1, -(atL L b9), -(abI (atL L b9) + 1)])))))] H := hP
              have hD : va_D A [(a, .inl (cA, (L.length, .inl (atL L)))), (h, .inl (cA, ([nI b9, nI e9].length, .inl (atL [nI b9, nI e9])))), (q, .inl (cA, ((ckL L b9 e9 k).length, .inl (atL (ckL L b9 e9 k))))), (nq_7, .inl (cA, ([abI (atL L b9) + 1, -(atL L b9), -(abI (atL L b9) + 1)].length, .inl (atL [abI (atL L b9) + 1, -(atL L b9), -(abI (atL L b9) + 1)])))), (q_13, .inl (cA, (((ckL L b9 e9 k) ++ [abI (atL L b9) + 1, -(atL L b9), -(abI (atL L b9) + 1)]).length, .inl (atL ((ckL L b9 e9 k) ++ [abI (atL L b9) + 1, -(atL L b9), -(abI (atL L b9) + 1)])))))] := hD
              refine W.eq (g2 := F0 m 144 ls [.ref q_13]) rfl ?_
              refine lv_astore (lv' := [(4, .ref q_13), (6, .int (atL L k)), (5, .int (nI k)), (3, .int (abI (atL L b9) + 1)), (2, .int (atL L b9)), (0, .ref a), (1, .ref h)]) hx hb dX2_cut_144 hl (by decide) rfl (fun ls hl => ?_)
              refine lv_iinc (v := nI (k + 1)) (lv' := [(5, .int (nI (k + 1))), (4, .ref q_13), (6, .int (atL L k)), (3, .int (abI (atL L b9) + 1)), (2, .int (atL L b9)), (0, .ref a), (1, .ref h)]) hx hb dX2_cut_146 hl (k := 2) rfl (g_inc _) (by decide) rfl (fun ls hl => ?_)
              refine lv_goto (tgt := 30) hx hb dX2_cut_149 (by decide) ?_
              have hP := g_subP hP [0, 1, 4] (wc := [(a, .inl (cA, (L.length, .inl (atL L)))), (h, .inl (cA, ([nI b9, nI e9].length, .inl (atL [nI b9, nI e9])))), (q_13, .inl (cA, (((ckL L b9 e9 k) ++ [abI (atL L b9) + 1, -(atL L b9), -(abI (atL L b9) + 1)]).length, .inl (atL ((ckL L b9 e9 k) ++ [abI (atL L b9) + 1, -(atL L b9), -(abI (atL L b9) + 1)])))))]) rfl
              have hD := hD.sub (ws' := [(a, .inl (cA, (L.length, .inl (atL L)))), (h, .inl (cA, ([nI b9, nI e9].length, .inl (atL [nI b9, nI e9])))), (q_13, .inl (cA, (((ckL L b9 e9 k) ++ [abI (atL L b9) + 1, -(atL L b9), -(abI (atL L b9) + 1)]).length, .inl (atL ((ckL L b9 e9 k) ++ [abI (atL L b9) + 1, -(atL L b9), -(abI (atL L b9) + 1)])))))]) [0, 1, 4] (by decide) rfl
              rw [show ((ckL L b9 e9 k) ++ [abI (atL L b9) + 1, -(atL L b9), -(abI (atL L b9) + 1)]) = ckL L b9 e9 (k + 1) from by rw [(okx_cut _ hxb _ hy).2.2.1 c76 c126]; exact ck3 (by omega) c35 hup] at hP hD
              have hP : va_P (dC, dI) vwCl [(a, .inl (cA, (L.length, .inl (atL L)))), (h, .inl (cA, ([nI b9, nI e9].length, .inl (atL [nI b9, nI e9])))), (q_13, .inl (cA, ((ckL L b9 e9 (k + 1)).length, .inl (atL (ckL L b9 e9 (k + 1))))))] H := hP
              have hD : va_D A [(a, .inl (cA, (L.length, .inl (atL L)))), (h, .inl (cA, ([nI b9, nI e9].length, .inl (atL [nI b9, nI e9])))), (q_13, .inl (cA, ((ckL L b9 e9 (k + 1)).length, .inl (atL (ckL L b9 e9 (k + 1))))))] := hD
              exact ih30 (k + 1) (d9 + 1) q_13 (by omega) (by omega) (by omega) _ _ (by omega) (by omega) _ _ hP hD hS _ (lv_sub hl [0, 1, 3, 4, 5, 6] rfl)
          · refine lv_aload hx hb dX2_cut_79 (lv_at hl 2 rfl) ?_
            refine lv_iconst (v := 3) hx hb dX2_cut_81 (by decide) ?_
            refine va_newa (atype := .int) (ty := .int) (a0 := (3, .inl (fun _ => 0))) (N' := 3) hx hb (hts (.arrayClass .int) (List.mem_of_getElem? (i := 5) rfl)) rfl hK hP hD hS hA (fun _ => rfl) (by decide) (by decide) (by decide) (by show _ ≤ 200; omega) (by show _ ≤ (98 * ((cutL L b9 e9).length + 6) + (cutL L b9 e9).length + 300); omega) dX2_cut_82 (fun nq_15 cA_16 H hK9 hP hD hS => ?_)
            have eA9 : cA_16 = cA := Option.some.inj ((hK9.2 1 _ rfl).2.symm.trans (hK.2 0 _ rfl).2)
            rw [eA9] at hP hD
            have hP : va_P (dC, dI) vwCl [(a, .inl (cA, (L.length, .inl (atL L)))), (h, .inl (cA, ([nI b9, nI e9].length, .inl (atL [nI b9, nI e9])))), (q, .inl (cA, ((ckL L b9 e9 k).length, .inl (atL (ckL L b9 e9 k))))), (nq_15, .inl (cA, (3, .inl (fun _ => 0))))] H := hP
            have hD : va_D A [(a, .inl (cA, (L.length, .inl (atL L)))), (h, .inl (cA, ([nI b9, nI e9].length, .inl (atL [nI b9, nI e9])))), (q, .inl (cA, ((ckL L b9 e9 k).length, .inl (atL (ckL L b9 e9 k))))), (nq_15, .inl (cA, (3, .inl (fun _ => 0))))] := hD
            refine lv_dup hx hb dX2_cut_84 rfl ?_
            refine lv_iconst (v := 0) hx hb dX2_cut_85 (by decide) ?_
            refine lv_iload_n hx hb dX2_cut_86 rfl (lv_at hl 3 rfl) ?_
            refine lv_ineg hx hb dX2_cut_87 ?_
            refine va_iast hx hb hK hP hD hS 3 0 rfl rfl (vp_in_nI (n := 0) (by omega) (by decide)) dX2_cut_88 (fun H locs hP hD hS => ?_)
            rw [show (0 : Int32).toNatClampNeg = 0 from by decide] at hP hD
            have hP : va_P (dC, dI) vwCl [(a, .inl (cA, (L.length, .inl (atL L)))), (h, .inl (cA, ([nI b9, nI e9].length, .inl (atL [nI b9, nI e9])))), (q, .inl (cA, ((ckL L b9 e9 k).length, .inl (atL (ckL L b9 e9 k))))), (nq_15, .inl (cA, (3, .inl (upd (fun _ => 0) 0 (-(abI (atL L b9) + 1))))))] H := hP
            have hD : va_D A [(a, .inl (cA, (L.length, .inl (atL L)))), (h, .inl (cA, ([nI b9, nI e9].length, .inl (atL [nI b9, nI e9])))), (q, .inl (cA, ((ckL L b9 e9 k).length, .inl (atL (ckL L b9 e9 k))))), (nq_15, .inl (cA, (3, .inl (upd (fun _ => 0) 0 (-(abI (atL L b9) + 1))))))] := hD
            refine lv_dup hx hb dX2_cut_89 rfl ?_
            refine lv_iconst (v := 1) hx hb dX2_cut_90 (by decide) ?_
            refine lv_iload hx hb dX2_cut_91 (lv_at hl 0 rfl) ?_
            refine lv_if_le (tgt := 100) hx hb dX2_cut_93 (by decide) (fun c93 => ?_) (fun c93 => ?_)
            · refine lv_iload_n hx hb dX2_cut_100 rfl (lv_at hl 4 rfl) ?_
              refine lv_ineg hx hb dX2_cut_101 ?_
              refine va_iast hx hb hK hP hD hS 3 0 rfl rfl (vp_in_nI (n := 1) (by omega) (by decide)) dX2_cut_102 (fun H locs hP hD hS => ?_)
              rw [show (1 : Int32).toNatClampNeg = 1 from by decide] at hP hD
              have hP : va_P (dC, dI) vwCl [(a, .inl (cA, (L.length, .inl (atL L)))), (h, .inl (cA, ([nI b9, nI e9].length, .inl (atL [nI b9, nI e9])))), (q, .inl (cA, ((ckL L b9 e9 k).length, .inl (atL (ckL L b9 e9 k))))), (nq_15, .inl (cA, (3, .inl (upd (upd (fun _ => 0) 0 (-(abI (atL L b9) + 1))) 1 (-(atL L b9))))))] H := hP
              have hD : va_D A [(a, .inl (cA, (L.length, .inl (atL L)))), (h, .inl (cA, ([nI b9, nI e9].length, .inl (atL [nI b9, nI e9])))), (q, .inl (cA, ((ckL L b9 e9 k).length, .inl (atL (ckL L b9 e9 k))))), (nq_15, .inl (cA, (3, .inl (upd (upd (fun _ => 0) 0 (-(abI (atL L b9) + 1))) 1 (-(atL L b9))))))] := hD
              refine lv_dup hx hb dX2_cut_103 rfl ?_
              refine lv_iconst (v := 2) hx hb dX2_cut_104 (by decide) ?_
              refine lv_iload_n hx hb dX2_cut_105 rfl (lv_at hl 3 rfl) ?_
              refine va_iast hx hb hK hP hD hS 3 0 rfl rfl (vp_in_nI (n := 2) (by omega) (by decide)) dX2_cut_106 (fun H locs hP hD hS => ?_)
              rw [show (2 : Int32).toNatClampNeg = 2 from by decide] at hP hD
              have hP : va_P (dC, dI) vwCl [(a, .inl (cA, (L.length, .inl (atL L)))), (h, .inl (cA, ([nI b9, nI e9].length, .inl (atL [nI b9, nI e9])))), (q, .inl (cA, ((ckL L b9 e9 k).length, .inl (atL (ckL L b9 e9 k))))), (nq_15, .inl (cA, (3, .inl (upd (upd (upd (fun _ => 0) 0 (-(abI (atL L b9) + 1))) 1 (-(atL L b9))) 2 (abI (atL L b9) + 1)))))] H := hP
              have hD : va_D A [(a, .inl (cA, (L.length, .inl (atL L)))), (h, .inl (cA, ([nI b9, nI e9].length, .inl (atL [nI b9, nI e9])))), (q, .inl (cA, ((ckL L b9 e9 k).length, .inl (atL (ckL L b9 e9 k))))), (nq_15, .inl (cA, (3, .inl (upd (upd (upd (fun _ => 0) 0 (-(abI (atL L b9) + 1))) 1 (-(atL L b9))) 2 (abI (atL L b9) + 1)))))] := hD
              have hP := va_canon hP 3 rfl [-(abI (atL L b9) + 1), -(atL L b9), abI (atL L b9) + 1] rfl ar3
              have hD := va_canonD hD 3 rfl [-(abI (atL L b9) + 1), -(atL L b9), abI (atL L b9) + 1] (cA := cA)
              have hP : va_P (dC, dI) vwCl [(a, .inl (cA, (L.length, .inl (atL L)))), (h, .inl (cA, ([nI b9, nI e9].length, .inl (atL [nI b9, nI e9])))), (q, .inl (cA, ((ckL L b9 e9 k).length, .inl (atL (ckL L b9 e9 k))))), (nq_15, .inl (cA, ([-(abI (atL L b9) + 1), -(atL L b9), abI (atL L b9) + 1].length, .inl (atL [-(abI (atL L b9) + 1), -(atL L b9), abI (atL L b9) + 1]))))] H := hP
              have hD : va_D A [(a, .inl (cA, (L.length, .inl (atL L)))), (h, .inl (cA, ([nI b9, nI e9].length, .inl (atL [nI b9, nI e9])))), (q, .inl (cA, ((ckL L b9 e9 k).length, .inl (atL (ckL L b9 e9 k))))), (nq_15, .inl (cA, ([-(abI (atL L b9) + 1), -(atL L b9), abI (atL L b9) + 1].length, .inl (atL [-(abI (atL L b9) + 1), -(atL L b9), abI (atL L b9) + 1]))))] := hD
              have hl_17 : [-(abI (atL L b9) + 1), -(atL L b9), abI (atL L b9) + 1].length = 3 := rfl
              refine g_QS xT_st (As := [.ref q, .ref nq_15]) (rest := []) (wr := [(a, .inl (cA, (L.length, .inl (atL L)))), (h, .inl (cA, ([nI b9, nI e9].length, .inl (atL [nI b9, nI e9]))))]) ⟨hx, hb, hml, hown, hts⟩ (mt_X2_cat l dC dI cA H.size q nq_15 (ckL L b9 e9 k) [-(abI (atL L b9) + 1), -(atL L b9), abI (atL L b9) + 1] (by first | omega | (simp only [List.length_append, List.length_cons, List.length_nil, List.length_set, turnL_len]; omega))) (va_cwS 2 hts gX2_cut_X2_cat rfl rfl rfl hdX2_cat ⟨Nat.le_of_ble_eq_true rfl, Nat.le_of_ble_eq_true rfl⟩) hP hK hD hS hA trivial [2, 3] (by decide) rfl [0, 1] rfl (by decide) (by decide) rfl hl.1 rfl (Nat.le_of_ble_eq_true rfl) dX2_cut_107 (by show _ ≤ 200; omega) (by show _ ≤ (98 * ((cutL L b9 e9).length + 6) + (cutL L b9 e9).length + 300); omega) (fun u H locs hw_19 hP hD hS => ?_)
              obtain ⟨q_18, rfl⟩ : ∃ z, z = u := ⟨_, rfl⟩
              have hw_19 : True := hw_19
              have hP : va_P (dC, dI) vwCl [(a, .inl (cA, (L.length, .inl (atL L)))), (h, .inl (cA, ([nI b9, nI e9].length, .inl (atL [nI b9, nI e9])))), (q, .inl (cA, ((ckL L b9 e9 k).length, .inl (atL (ckL L b9 e9 k))))), (nq_15, .inl (cA, ([-(abI (atL L b9) + 1), -(atL L b9), abI (atL L b9) + 1].length, .inl (atL [-(abI (atL L b9) + 1), -(atL L b9), abI (atL L b9) + 1])))), (q_18, .inl (cA, (((ckL L b9 e9 k) ++ [-(abI (atL L b9) + 1), -(atL L b9), abI (atL L b9) + 1]).length, .inl (atL ((ckL L b9 e9 k) ++ [-(abI (atL L b9) + 1), -(atL L b9), abI (atL L b9) + 1])))))] H := hP
              have hD : va_D A [(a, .inl (cA, (L.length, .inl (atL L)))), (h, .inl (cA, ([nI b9, nI e9].length, .inl (atL [nI b9, nI e9])))), (q, .inl (cA, ((ckL L b9 e9 k).length, .inl (atL (ckL L b9 e9 k))))), (nq_15, .inl (cA, ([-(abI (atL L b9) + 1), -(atL L b9), abI (atL L b9) + 1].length, .inl (atL [-(abI (atL L b9) + 1), -(atL L b9), abI (atL L b9) + 1])))), (q_18, .inl (cA, (((ckL L b9 e9 k) ++ [-(abI (atL L b9) + 1), -(atL L b9), abI (atL L b9) + 1]).length, .inl (atL ((ckL L b9 e9 k) ++ [-(abI (atL L b9) + 1), -(atL L b9), abI (atL L b9) + 1])))))] := hD
              refine W.eq (g2 := F0 m 110 ls [.ref q_18]) rfl ?_
              refine lv_goto (tgt := 144) hx hb dX2_cut_110 (by decide) ?_
              refine lv_astore (lv' := [(4, .ref q_18), (6, .int (atL L k)), (5, .int (nI k)), (3, .int (abI (atL L b9) + 1)), (2, .int (atL L b9)), (0, .ref a), (1, .ref h)]) hx hb dX2_cut_144 hl (by decide) rfl (fun ls hl => ?_)
              refine lv_iinc (v := nI (k + 1)) (lv' := [(5, .int (nI (k + 1))), (4, .ref q_18), (6, .int (atL L k)), (3, .int (abI (atL L b9) + 1)), (2, .int (atL L b9)), (0, .ref a), (1, .ref h)]) hx hb dX2_cut_146 hl (k := 2) rfl (g_inc _) (by decide) rfl (fun ls hl => ?_)
              refine lv_goto (tgt := 30) hx hb dX2_cut_149 (by decide) ?_
              have hP := g_subP hP [0, 1, 4] (wc := [(a, .inl (cA, (L.length, .inl (atL L)))), (h, .inl (cA, ([nI b9, nI e9].length, .inl (atL [nI b9, nI e9])))), (q_18, .inl (cA, (((ckL L b9 e9 k) ++ [-(abI (atL L b9) + 1), -(atL L b9), abI (atL L b9) + 1]).length, .inl (atL ((ckL L b9 e9 k) ++ [-(abI (atL L b9) + 1), -(atL L b9), abI (atL L b9) + 1])))))]) rfl
              have hD := hD.sub (ws' := [(a, .inl (cA, (L.length, .inl (atL L)))), (h, .inl (cA, ([nI b9, nI e9].length, .inl (atL [nI b9, nI e9])))), (q_18, .inl (cA, (((ckL L b9 e9 k) ++ [-(abI (atL L b9) + 1), -(atL L b9), abI (atL L b9) + 1]).length, .inl (atL ((ckL L b9 e9 k) ++ [-(abI (atL L b9) + 1), -(atL L b9), abI (atL L b9) + 1])))))]) [0, 1, 4] (by decide) rfl
              rw [show ((ckL L b9 e9 k) ++ [-(abI (atL L b9) + 1), -(atL L b9), abI (atL L b9) + 1]) = ckL L b9 e9 (k + 1) from by rw [(okx_cut _ hxb _ hy).2.1 c76 c93]; exact ck3 (by omega) c35 hup] at hP hD
              have hP : va_P (dC, dI) vwCl [(a, .inl (cA, (L.length, .inl (atL L)))), (h, .inl (cA, ([nI b9, nI e9].length, .inl (atL [nI b9, nI e9])))), (q_18, .inl (cA, ((ckL L b9 e9 (k + 1)).length, .inl (atL (ckL L b9 e9 (k + 1))))))] H := hP
              have hD : va_D A [(a, .inl (cA, (L.length, .inl (atL L)))), (h, .inl (cA, ([nI b9, nI e9].length, .inl (atL [nI b9, nI e9])))), (q_18, .inl (cA, ((ckL L b9 e9 (k + 1)).length, .inl (atL (ckL L b9 e9 (k + 1))))))] := hD
              exact ih30 (k + 1) (d9 + 1) q_18 (by omega) (by omega) (by omega) _ _ (by omega) (by omega) _ _ hP hD hS _ (lv_sub hl [0, 1, 3, 4, 5, 6] rfl)
            · refine lv_iload_n hx hb dX2_cut_96 rfl (lv_at hl 4 rfl) ?_
              refine lv_goto (tgt := 102) hx hb dX2_cut_97 (by decide) ?_
              refine va_iast hx hb hK hP hD hS 3 0 rfl rfl (vp_in_nI (n := 1) (by omega) (by decide)) dX2_cut_102 (fun H locs hP hD hS => ?_)
              rw [show (1 : Int32).toNatClampNeg = 1 from by decide] at hP hD
              have hP : va_P (dC, dI) vwCl [(a, .inl (cA, (L.length, .inl (atL L)))), (h, .inl (cA, ([nI b9, nI e9].length, .inl (atL [nI b9, nI e9])))), (q, .inl (cA, ((ckL L b9 e9 k).length, .inl (atL (ckL L b9 e9 k))))), (nq_15, .inl (cA, (3, .inl (upd (upd (fun _ => 0) 0 (-(abI (atL L b9) + 1))) 1 (atL L b9)))))] H := hP
              have hD : va_D A [(a, .inl (cA, (L.length, .inl (atL L)))), (h, .inl (cA, ([nI b9, nI e9].length, .inl (atL [nI b9, nI e9])))), (q, .inl (cA, ((ckL L b9 e9 k).length, .inl (atL (ckL L b9 e9 k))))), (nq_15, .inl (cA, (3, .inl (upd (upd (fun _ => 0) 0 (-(abI (atL L b9) + 1))) 1 (atL L b9)))))] := hD
              refine lv_dup hx hb dX2_cut_103 rfl ?_
              refine lv_iconst (v := 2) hx hb dX2_cut_104 (by decide) ?_
              refine lv_iload_n hx hb dX2_cut_105 rfl (lv_at hl 3 rfl) ?_
              refine va_iast hx hb hK hP hD hS 3 0 rfl rfl (vp_in_nI (n := 2) (by omega) (by decide)) dX2_cut_106 (fun H locs hP hD hS => ?_)
              rw [show (2 : Int32).toNatClampNeg = 2 from by decide] at hP hD
              have hP : va_P (dC, dI) vwCl [(a, .inl (cA, (L.length, .inl (atL L)))), (h, .inl (cA, ([nI b9, nI e9].length, .inl (atL [nI b9, nI e9])))), (q, .inl (cA, ((ckL L b9 e9 k).length, .inl (atL (ckL L b9 e9 k))))), (nq_15, .inl (cA, (3, .inl (upd (upd (upd (fun _ => 0) 0 (-(abI (atL L b9) + 1))) 1 (atL L b9)) 2 (abI (atL L b9) + 1)))))] H := hP
              have hD : va_D A [(a, .inl (cA, (L.length, .inl (atL L)))), (h, .inl (cA, ([nI b9, nI e9].length, .inl (atL [nI b9, nI e9])))), (q, .inl (cA, ((ckL L b9 e9 k).length, .inl (atL (ckL L b9 e9 k))))), (nq_15, .inl (cA, (3, .inl (upd (upd (upd (fun _ => 0) 0 (-(abI (atL L b9) + 1))) 1 (atL L b9)) 2 (abI (atL L b9) + 1)))))] := hD
              have hP := va_canon hP 3 rfl [-(abI (atL L b9) + 1), atL L b9, abI (atL L b9) + 1] rfl ar3
              have hD := va_canonD hD 3 rfl [-(abI (atL L b9) + 1), atL L b9, abI (atL L b9) + 1] (cA := cA)
              have hP : va_P (dC, dI) vwCl [(a, .inl (cA, (L.length, .inl (atL L)))), (h, .inl (cA, ([nI b9, nI e9].length, .inl (atL [nI b9, nI e9])))), (q, .inl (cA, ((ckL L b9 e9 k).length, .inl (atL (ckL L b9 e9 k))))), (nq_15, .inl (cA, ([-(abI (atL L b9) + 1), atL L b9, abI (atL L b9) + 1].length, .inl (atL [-(abI (atL L b9) + 1), atL L b9, abI (atL L b9) + 1]))))] H := hP
              have hD : va_D A [(a, .inl (cA, (L.length, .inl (atL L)))), (h, .inl (cA, ([nI b9, nI e9].length, .inl (atL [nI b9, nI e9])))), (q, .inl (cA, ((ckL L b9 e9 k).length, .inl (atL (ckL L b9 e9 k))))), (nq_15, .inl (cA, ([-(abI (atL L b9) + 1), atL L b9, abI (atL L b9) + 1].length, .inl (atL [-(abI (atL L b9) + 1), atL L b9, abI (atL L b9) + 1]))))] := hD
              have hl_20 : [-(abI (atL L b9) + 1), atL L b9, abI (atL L b9) + 1].length = 3 := rfl
              refine g_QS xT_st (As := [.ref q, .ref nq_15]) (rest := []) (wr := [(a, .inl (cA, (L.length, .inl (atL L)))), (h, .inl (cA, ([nI b9, nI e9].length, .inl (atL [nI b9, nI e9]))))]) ⟨hx, hb, hml, hown, hts⟩ (mt_X2_cat l dC dI cA H.size q nq_15 (ckL L b9 e9 k) [-(abI (atL L b9) + 1), atL L b9, abI (atL L b9) + 1] (by first | omega | (simp only [List.length_append, List.length_cons, List.length_nil, List.length_set, turnL_len]; omega))) (va_cwS 2 hts gX2_cut_X2_cat rfl rfl rfl hdX2_cat ⟨Nat.le_of_ble_eq_true rfl, Nat.le_of_ble_eq_true rfl⟩) hP hK hD hS hA trivial [2, 3] (by decide) rfl [0, 1] rfl (by decide) (by decide) rfl hl.1 rfl (Nat.le_of_ble_eq_true rfl) dX2_cut_107 (by show _ ≤ 200; omega) (by show _ ≤ (98 * ((cutL L b9 e9).length + 6) + (cutL L b9 e9).length + 300); omega) (fun u H locs hw_22 hP hD hS => ?_)
              obtain ⟨q_21, rfl⟩ : ∃ z, z = u := ⟨_, rfl⟩
              have hw_22 : True := hw_22
              have hP : va_P (dC, dI) vwCl [(a, .inl (cA, (L.length, .inl (atL L)))), (h, .inl (cA, ([nI b9, nI e9].length, .inl (atL [nI b9, nI e9])))), (q, .inl (cA, ((ckL L b9 e9 k).length, .inl (atL (ckL L b9 e9 k))))), (nq_15, .inl (cA, ([-(abI (atL L b9) + 1), atL L b9, abI (atL L b9) + 1].length, .inl (atL [-(abI (atL L b9) + 1), atL L b9, abI (atL L b9) + 1])))), (q_21, .inl (cA, (((ckL L b9 e9 k) ++ [-(abI (atL L b9) + 1), atL L b9, abI (atL L b9) + 1]).length, .inl (atL ((ckL L b9 e9 k) ++ [-(abI (atL L b9) + 1), atL L b9, abI (atL L b9) + 1])))))] H := hP
              have hD : va_D A [(a, .inl (cA, (L.length, .inl (atL L)))), (h, .inl (cA, ([nI b9, nI e9].length, .inl (atL [nI b9, nI e9])))), (q, .inl (cA, ((ckL L b9 e9 k).length, .inl (atL (ckL L b9 e9 k))))), (nq_15, .inl (cA, ([-(abI (atL L b9) + 1), atL L b9, abI (atL L b9) + 1].length, .inl (atL [-(abI (atL L b9) + 1), atL L b9, abI (atL L b9) + 1])))), (q_21, .inl (cA, (((ckL L b9 e9 k) ++ [-(abI (atL L b9) + 1), atL L b9, abI (atL L b9) + 1]).length, .inl (atL ((ckL L b9 e9 k) ++ [-(abI (atL L b9) + 1), atL L b9, abI (atL L b9) + 1])))))] := hD
              refine W.eq (g2 := F0 m 110 ls [.ref q_21]) rfl ?_
              refine lv_goto (tgt := 144) hx hb dX2_cut_110 (by decide) ?_
              refine lv_astore (lv' := [(4, .ref q_21), (6, .int (atL L k)), (5, .int (nI k)), (3, .int (abI (atL L b9) + 1)), (2, .int (atL L b9)), (0, .ref a), (1, .ref h)]) hx hb dX2_cut_144 hl (by decide) rfl (fun ls hl => ?_)
              refine lv_iinc (v := nI (k + 1)) (lv' := [(5, .int (nI (k + 1))), (4, .ref q_21), (6, .int (atL L k)), (3, .int (abI (atL L b9) + 1)), (2, .int (atL L b9)), (0, .ref a), (1, .ref h)]) hx hb dX2_cut_146 hl (k := 2) rfl (g_inc _) (by decide) rfl (fun ls hl => ?_)
              refine lv_goto (tgt := 30) hx hb dX2_cut_149 (by decide) ?_
              have hP := g_subP hP [0, 1, 4] (wc := [(a, .inl (cA, (L.length, .inl (atL L)))), (h, .inl (cA, ([nI b9, nI e9].length, .inl (atL [nI b9, nI e9])))), (q_21, .inl (cA, (((ckL L b9 e9 k) ++ [-(abI (atL L b9) + 1), atL L b9, abI (atL L b9) + 1]).length, .inl (atL ((ckL L b9 e9 k) ++ [-(abI (atL L b9) + 1), atL L b9, abI (atL L b9) + 1])))))]) rfl
              have hD := hD.sub (ws' := [(a, .inl (cA, (L.length, .inl (atL L)))), (h, .inl (cA, ([nI b9, nI e9].length, .inl (atL [nI b9, nI e9])))), (q_21, .inl (cA, (((ckL L b9 e9 k) ++ [-(abI (atL L b9) + 1), atL L b9, abI (atL L b9) + 1]).length, .inl (atL ((ckL L b9 e9 k) ++ [-(abI (atL L b9) + 1), atL L b9, abI (atL L b9) + 1])))))]) [0, 1, 4] (by decide) rfl
              rw [show ((ckL L b9 e9 k) ++ [-(abI (atL L b9) + 1), atL L b9, abI (atL L b9) + 1]) = ckL L b9 e9 (k + 1) from by rw [(okx_cut _ hxb _ hy).1 c76 c93]; exact ck3 (by omega) c35 hup] at hP hD
              have hP : va_P (dC, dI) vwCl [(a, .inl (cA, (L.length, .inl (atL L)))), (h, .inl (cA, ([nI b9, nI e9].length, .inl (atL [nI b9, nI e9])))), (q_21, .inl (cA, ((ckL L b9 e9 (k + 1)).length, .inl (atL (ckL L b9 e9 (k + 1))))))] H := hP
              have hD : va_D A [(a, .inl (cA, (L.length, .inl (atL L)))), (h, .inl (cA, ([nI b9, nI e9].length, .inl (atL [nI b9, nI e9])))), (q_21, .inl (cA, ((ckL L b9 e9 (k + 1)).length, .inl (atL (ckL L b9 e9 (k + 1))))))] := hD
              exact ih30 (k + 1) (d9 + 1) q_21 (by omega) (by omega) (by omega) _ _ (by omega) (by omega) _ _ hP hD hS _ (lv_sub hl [0, 1, 3, 4, 5, 6] rfl)
        · refine lv_iload hx hb dX2_cut_50 (lv_at hl 0 rfl) ?_
          refine lv_iload_n hx hb dX2_cut_52 rfl (lv_at hl 3 rfl) ?_
          refine lv_ineg hx hb dX2_cut_53 ?_
          refine lv_icmp_eq (tgt := 75) hx hb dX2_cut_54 (by decide) (fun c54 => ?_) (fun c54 => ?_)
          · have hup : abI (atL L k) = abI (atL L b9) + 1 := (okx_ab _ hxb _ hy).2.1 c54
            refine lv_iload_n hx hb dX2_cut_75 rfl (lv_at hl 4 rfl) ?_
            refine lv_if_le (tgt := 113) hx hb dX2_cut_76 (by decide) (fun c76 => ?_) (fun c76 => ?_)
            · refine lv_aload hx hb dX2_cut_113 (lv_at hl 2 rfl) ?_
              refine lv_iconst (v := 3) hx hb dX2_cut_115 (by decide) ?_
              refine va_newa (atype := .int) (ty := .int) (a0 := (3, .inl (fun _ => 0))) (N' := 3) hx hb (hts (.arrayClass .int) (List.mem_of_getElem? (i := 5) rfl)) rfl hK hP hD hS hA (fun _ => rfl) (by decide) (by decide) (by decide) (by show _ ≤ 200; omega) (by show _ ≤ (98 * ((cutL L b9 e9).length + 6) + (cutL L b9 e9).length + 300); omega) dX2_cut_116 (fun nq_23 cA_24 H hK9 hP hD hS => ?_)
              have eA9 : cA_24 = cA := Option.some.inj ((hK9.2 1 _ rfl).2.symm.trans (hK.2 0 _ rfl).2)
              rw [eA9] at hP hD
              have hP : va_P (dC, dI) vwCl [(a, .inl (cA, (L.length, .inl (atL L)))), (h, .inl (cA, ([nI b9, nI e9].length, .inl (atL [nI b9, nI e9])))), (q, .inl (cA, ((ckL L b9 e9 k).length, .inl (atL (ckL L b9 e9 k))))), (nq_23, .inl (cA, (3, .inl (fun _ => 0))))] H := hP
              have hD : va_D A [(a, .inl (cA, (L.length, .inl (atL L)))), (h, .inl (cA, ([nI b9, nI e9].length, .inl (atL [nI b9, nI e9])))), (q, .inl (cA, ((ckL L b9 e9 k).length, .inl (atL (ckL L b9 e9 k))))), (nq_23, .inl (cA, (3, .inl (fun _ => 0))))] := hD
              refine lv_dup hx hb dX2_cut_118 rfl ?_
              refine lv_iconst (v := 0) hx hb dX2_cut_119 (by decide) ?_
              refine lv_iload_n hx hb dX2_cut_120 rfl (lv_at hl 3 rfl) ?_
              refine va_iast hx hb hK hP hD hS 3 0 rfl rfl (vp_in_nI (n := 0) (by omega) (by decide)) dX2_cut_121 (fun H locs hP hD hS => ?_)
              rw [show (0 : Int32).toNatClampNeg = 0 from by decide] at hP hD
              have hP : va_P (dC, dI) vwCl [(a, .inl (cA, (L.length, .inl (atL L)))), (h, .inl (cA, ([nI b9, nI e9].length, .inl (atL [nI b9, nI e9])))), (q, .inl (cA, ((ckL L b9 e9 k).length, .inl (atL (ckL L b9 e9 k))))), (nq_23, .inl (cA, (3, .inl (upd (fun _ => 0) 0 (abI (atL L b9) + 1)))))] H := hP
              have hD : va_D A [(a, .inl (cA, (L.length, .inl (atL L)))), (h, .inl (cA, ([nI b9, nI e9].length, .inl (atL [nI b9, nI e9])))), (q, .inl (cA, ((ckL L b9 e9 k).length, .inl (atL (ckL L b9 e9 k))))), (nq_23, .inl (cA, (3, .inl (upd (fun _ => 0) 0 (abI (atL L b9) + 1)))))] := hD
              refine lv_dup hx hb dX2_cut_122 rfl ?_
              refine lv_iconst (v := 1) hx hb dX2_cut_123 (by decide) ?_
              refine lv_iload hx hb dX2_cut_124 (lv_at hl 0 rfl) ?_
              refine lv_if_le (tgt := 134) hx hb dX2_cut_126 (by decide) (fun c126 => ?_) (fun c126 => ?_)
              · refine lv_iload_n hx hb dX2_cut_134 rfl (lv_at hl 4 rfl) ?_
                refine va_iast hx hb hK hP hD hS 3 0 rfl rfl (vp_in_nI (n := 1) (by omega) (by decide)) dX2_cut_135 (fun H locs hP hD hS => ?_)
                rw [show (1 : Int32).toNatClampNeg = 1 from by decide] at hP hD
                have hP : va_P (dC, dI) vwCl [(a, .inl (cA, (L.length, .inl (atL L)))), (h, .inl (cA, ([nI b9, nI e9].length, .inl (atL [nI b9, nI e9])))), (q, .inl (cA, ((ckL L b9 e9 k).length, .inl (atL (ckL L b9 e9 k))))), (nq_23, .inl (cA, (3, .inl (upd (upd (fun _ => 0) 0 (abI (atL L b9) + 1)) 1 (atL L b9)))))] H := hP
                have hD : va_D A [(a, .inl (cA, (L.length, .inl (atL L)))), (h, .inl (cA, ([nI b9, nI e9].length, .inl (atL [nI b9, nI e9])))), (q, .inl (cA, ((ckL L b9 e9 k).length, .inl (atL (ckL L b9 e9 k))))), (nq_23, .inl (cA, (3, .inl (upd (upd (fun _ => 0) 0 (abI (atL L b9) + 1)) 1 (atL L b9)))))] := hD
                refine lv_dup hx hb dX2_cut_136 rfl ?_
                refine lv_iconst (v := 2) hx hb dX2_cut_137 (by decide) ?_
                refine lv_iload_n hx hb dX2_cut_138 rfl (lv_at hl 3 rfl) ?_
                refine lv_ineg hx hb dX2_cut_139 ?_
                refine va_iast hx hb hK hP hD hS 3 0 rfl rfl (vp_in_nI (n := 2) (by omega) (by decide)) dX2_cut_140 (fun H locs hP hD hS => ?_)
                rw [show (2 : Int32).toNatClampNeg = 2 from by decide] at hP hD
                have hP : va_P (dC, dI) vwCl [(a, .inl (cA, (L.length, .inl (atL L)))), (h, .inl (cA, ([nI b9, nI e9].length, .inl (atL [nI b9, nI e9])))), (q, .inl (cA, ((ckL L b9 e9 k).length, .inl (atL (ckL L b9 e9 k))))), (nq_23, .inl (cA, (3, .inl (upd (upd (upd (fun _ => 0) 0 (abI (atL L b9) + 1)) 1 (atL L b9)) 2 (-(abI (atL L b9) + 1))))))] H := hP
                have hD : va_D A [(a, .inl (cA, (L.length, .inl (atL L)))), (h, .inl (cA, ([nI b9, nI e9].length, .inl (atL [nI b9, nI e9])))), (q, .inl (cA, ((ckL L b9 e9 k).length, .inl (atL (ckL L b9 e9 k))))), (nq_23, .inl (cA, (3, .inl (upd (upd (upd (fun _ => 0) 0 (abI (atL L b9) + 1)) 1 (atL L b9)) 2 (-(abI (atL L b9) + 1))))))] := hD
                have hP := va_canon hP 3 rfl [abI (atL L b9) + 1, atL L b9, -(abI (atL L b9) + 1)] rfl ar3
                have hD := va_canonD hD 3 rfl [abI (atL L b9) + 1, atL L b9, -(abI (atL L b9) + 1)] (cA := cA)
                have hP : va_P (dC, dI) vwCl [(a, .inl (cA, (L.length, .inl (atL L)))), (h, .inl (cA, ([nI b9, nI e9].length, .inl (atL [nI b9, nI e9])))), (q, .inl (cA, ((ckL L b9 e9 k).length, .inl (atL (ckL L b9 e9 k))))), (nq_23, .inl (cA, ([abI (atL L b9) + 1, atL L b9, -(abI (atL L b9) + 1)].length, .inl (atL [abI (atL L b9) + 1, atL L b9, -(abI (atL L b9) + 1)]))))] H := hP
                have hD : va_D A [(a, .inl (cA, (L.length, .inl (atL L)))), (h, .inl (cA, ([nI b9, nI e9].length, .inl (atL [nI b9, nI e9])))), (q, .inl (cA, ((ckL L b9 e9 k).length, .inl (atL (ckL L b9 e9 k))))), (nq_23, .inl (cA, ([abI (atL L b9) + 1, atL L b9, -(abI (atL L b9) + 1)].length, .inl (atL [abI (atL L b9) + 1, atL L b9, -(abI (atL L b9) + 1)]))))] := hD
                have hl_25 : [abI (atL L b9) + 1, atL L b9, -(abI (atL L b9) + 1)].length = 3 := rfl
                refine g_QS xT_st (As := [.ref q, .ref nq_23]) (rest := []) (wr := [(a, .inl (cA, (L.length, .inl (atL L)))), (h, .inl (cA, ([nI b9, nI e9].length, .inl (atL [nI b9, nI e9]))))]) ⟨hx, hb, hml, hown, hts⟩ (mt_X2_cat l dC dI cA H.size q nq_23 (ckL L b9 e9 k) [abI (atL L b9) + 1, atL L b9, -(abI (atL L b9) + 1)] (by first | omega | (simp only [List.length_append, List.length_cons, List.length_nil, List.length_set, turnL_len]; omega))) (va_cwS 2 hts gX2_cut_X2_cat rfl rfl rfl hdX2_cat ⟨Nat.le_of_ble_eq_true rfl, Nat.le_of_ble_eq_true rfl⟩) hP hK hD hS hA trivial [2, 3] (by decide) rfl [0, 1] rfl (by decide) (by decide) rfl hl.1 rfl (Nat.le_of_ble_eq_true rfl) dX2_cut_141 (by show _ ≤ 200; omega) (by show _ ≤ (98 * ((cutL L b9 e9).length + 6) + (cutL L b9 e9).length + 300); omega) (fun u H locs hw_27 hP hD hS => ?_)
                obtain ⟨q_26, rfl⟩ : ∃ z, z = u := ⟨_, rfl⟩
                have hw_27 : True := hw_27
                have hP : va_P (dC, dI) vwCl [(a, .inl (cA, (L.length, .inl (atL L)))), (h, .inl (cA, ([nI b9, nI e9].length, .inl (atL [nI b9, nI e9])))), (q, .inl (cA, ((ckL L b9 e9 k).length, .inl (atL (ckL L b9 e9 k))))), (nq_23, .inl (cA, ([abI (atL L b9) + 1, atL L b9, -(abI (atL L b9) + 1)].length, .inl (atL [abI (atL L b9) + 1, atL L b9, -(abI (atL L b9) + 1)])))), (q_26, .inl (cA, (((ckL L b9 e9 k) ++ [abI (atL L b9) + 1, atL L b9, -(abI (atL L b9) + 1)]).length, .inl (atL ((ckL L b9 e9 k) ++ [abI (atL L b9) + 1, atL L b9, -(abI (atL L b9) + 1)])))))] H := hP
                have hD : va_D A [(a, .inl (cA, (L.length, .inl (atL L)))), (h, .inl (cA, ([nI b9, nI e9].length, .inl (atL [nI b9, nI e9])))), (q, .inl (cA, ((ckL L b9 e9 k).length, .inl (atL (ckL L b9 e9 k))))), (nq_23, .inl (cA, ([abI (atL L b9) + 1, atL L b9, -(abI (atL L b9) + 1)].length, .inl (atL [abI (atL L b9) + 1, atL L b9, -(abI (atL L b9) + 1)])))), (q_26, .inl (cA, (((ckL L b9 e9 k) ++ [abI (atL L b9) + 1, atL L b9, -(abI (atL L b9) + 1)]).length, .inl (atL ((ckL L b9 e9 k) ++ [abI (atL L b9) + 1, atL L b9, -(abI (atL L b9) + 1)])))))] := hD
                refine W.eq (g2 := F0 m 144 ls [.ref q_26]) rfl ?_
                refine lv_astore (lv' := [(4, .ref q_26), (6, .int (atL L k)), (5, .int (nI k)), (3, .int (abI (atL L b9) + 1)), (2, .int (atL L b9)), (0, .ref a), (1, .ref h)]) hx hb dX2_cut_144 hl (by decide) rfl (fun ls hl => ?_)
                refine lv_iinc (v := nI (k + 1)) (lv' := [(5, .int (nI (k + 1))), (4, .ref q_26), (6, .int (atL L k)), (3, .int (abI (atL L b9) + 1)), (2, .int (atL L b9)), (0, .ref a), (1, .ref h)]) hx hb dX2_cut_146 hl (k := 2) rfl (g_inc _) (by decide) rfl (fun ls hl => ?_)
                refine lv_goto (tgt := 30) hx hb dX2_cut_149 (by decide) ?_
                have hP := g_subP hP [0, 1, 4] (wc := [(a, .inl (cA, (L.length, .inl (atL L)))), (h, .inl (cA, ([nI b9, nI e9].length, .inl (atL [nI b9, nI e9])))), (q_26, .inl (cA, (((ckL L b9 e9 k) ++ [abI (atL L b9) + 1, atL L b9, -(abI (atL L b9) + 1)]).length, .inl (atL ((ckL L b9 e9 k) ++ [abI (atL L b9) + 1, atL L b9, -(abI (atL L b9) + 1)])))))]) rfl
                have hD := hD.sub (ws' := [(a, .inl (cA, (L.length, .inl (atL L)))), (h, .inl (cA, ([nI b9, nI e9].length, .inl (atL [nI b9, nI e9])))), (q_26, .inl (cA, (((ckL L b9 e9 k) ++ [abI (atL L b9) + 1, atL L b9, -(abI (atL L b9) + 1)]).length, .inl (atL ((ckL L b9 e9 k) ++ [abI (atL L b9) + 1, atL L b9, -(abI (atL L b9) + 1)])))))]) [0, 1, 4] (by decide) rfl
                rw [show ((ckL L b9 e9 k) ++ [abI (atL L b9) + 1, atL L b9, -(abI (atL L b9) + 1)]) = ckL L b9 e9 (k + 1) from by rw [(okx_cut _ hxb _ hy).2.2.2 c76 c126]; exact ck3 (by omega) c35 hup] at hP hD
                have hP : va_P (dC, dI) vwCl [(a, .inl (cA, (L.length, .inl (atL L)))), (h, .inl (cA, ([nI b9, nI e9].length, .inl (atL [nI b9, nI e9])))), (q_26, .inl (cA, ((ckL L b9 e9 (k + 1)).length, .inl (atL (ckL L b9 e9 (k + 1))))))] H := hP
                have hD : va_D A [(a, .inl (cA, (L.length, .inl (atL L)))), (h, .inl (cA, ([nI b9, nI e9].length, .inl (atL [nI b9, nI e9])))), (q_26, .inl (cA, ((ckL L b9 e9 (k + 1)).length, .inl (atL (ckL L b9 e9 (k + 1))))))] := hD
                exact ih30 (k + 1) (d9 + 1) q_26 (by omega) (by omega) (by omega) _ _ (by omega) (by omega) _ _ hP hD hS _ (lv_sub hl [0, 1, 3, 4, 5, 6] rfl)
              · refine lv_iload_n hx hb dX2_cut_129 rfl (lv_at hl 4 rfl) ?_
                refine lv_ineg hx hb dX2_cut_130 ?_
                refine lv_goto (tgt := 135) hx hb dX2_cut_131 (by decide) ?_
                refine va_iast hx hb hK hP hD hS 3 0 rfl rfl (vp_in_nI (n := 1) (by omega) (by decide)) dX2_cut_135 (fun H locs hP hD hS => ?_)
                rw [show (1 : Int32).toNatClampNeg = 1 from by decide] at hP hD
                have hP : va_P (dC, dI) vwCl [(a, .inl (cA, (L.length, .inl (atL L)))), (h, .inl (cA, ([nI b9, nI e9].length, .inl (atL [nI b9, nI e9])))), (q, .inl (cA, ((ckL L b9 e9 k).length, .inl (atL (ckL L b9 e9 k))))), (nq_23, .inl (cA, (3, .inl (upd (upd (fun _ => 0) 0 (abI (atL L b9) + 1)) 1 (-(atL L b9))))))] H := hP
                have hD : va_D A [(a, .inl (cA, (L.length, .inl (atL L)))), (h, .inl (cA, ([nI b9, nI e9].length, .inl (atL [nI b9, nI e9])))), (q, .inl (cA, ((ckL L b9 e9 k).length, .inl (atL (ckL L b9 e9 k))))), (nq_23, .inl (cA, (3, .inl (upd (upd (fun _ => 0) 0 (abI (atL L b9) + 1)) 1 (-(atL L b9))))))] := hD
                refine lv_dup hx hb dX2_cut_136 rfl ?_
                refine lv_iconst (v := 2) hx hb dX2_cut_137 (by decide) ?_
                refine lv_iload_n hx hb dX2_cut_138 rfl (lv_at hl 3 rfl) ?_
                refine lv_ineg hx hb dX2_cut_139 ?_
                refine va_iast hx hb hK hP hD hS 3 0 rfl rfl (vp_in_nI (n := 2) (by omega) (by decide)) dX2_cut_140 (fun H locs hP hD hS => ?_)
                rw [show (2 : Int32).toNatClampNeg = 2 from by decide] at hP hD
                have hP : va_P (dC, dI) vwCl [(a, .inl (cA, (L.length, .inl (atL L)))), (h, .inl (cA, ([nI b9, nI e9].length, .inl (atL [nI b9, nI e9])))), (q, .inl (cA, ((ckL L b9 e9 k).length, .inl (atL (ckL L b9 e9 k))))), (nq_23, .inl (cA, (3, .inl (upd (upd (upd (fun _ => 0) 0 (abI (atL L b9) + 1)) 1 (-(atL L b9))) 2 (-(abI (atL L b9) + 1))))))] H := hP
                have hD : va_D A [(a, .inl (cA, (L.length, .inl (atL L)))), (h, .inl (cA, ([nI b9, nI e9].length, .inl (atL [nI b9, nI e9])))), (q, .inl (cA, ((ckL L b9 e9 k).length, .inl (atL (ckL L b9 e9 k))))), (nq_23, .inl (cA, (3, .inl (upd (upd (upd (fun _ => 0) 0 (abI (atL L b9) + 1)) 1 (-(atL L b9))) 2 (-(abI (atL L b9) + 1))))))] := hD
                have hP := va_canon hP 3 rfl [abI (atL L b9) + 1, -(atL L b9), -(abI (atL L b9) + 1)] rfl ar3
                have hD := va_canonD hD 3 rfl [abI (atL L b9) + 1, -(atL L b9), -(abI (atL L b9) + 1)] (cA := cA)
                have hP : va_P (dC, dI) vwCl [(a, .inl (cA, (L.length, .inl (atL L)))), (h, .inl (cA, ([nI b9, nI e9].length, .inl (atL [nI b9, nI e9])))), (q, .inl (cA, ((ckL L b9 e9 k).length, .inl (atL (ckL L b9 e9 k))))), (nq_23, .inl (cA, ([abI (atL L b9) + 1, -(atL L b9), -(abI (atL L b9) + 1)].length, .inl (atL [abI (atL L b9) + 1, -(atL L b9), -(abI (atL L b9) + 1)]))))] H := hP
                have hD : va_D A [(a, .inl (cA, (L.length, .inl (atL L)))), (h, .inl (cA, ([nI b9, nI e9].length, .inl (atL [nI b9, nI e9])))), (q, .inl (cA, ((ckL L b9 e9 k).length, .inl (atL (ckL L b9 e9 k))))), (nq_23, .inl (cA, ([abI (atL L b9) + 1, -(atL L b9), -(abI (atL L b9) + 1)].length, .inl (atL [abI (atL L b9) + 1, -(atL L b9), -(abI (atL L b9) + 1)]))))] := hD
                have hl_28 : [abI (atL L b9) + 1, -(atL L b9), -(abI (atL L b9) + 1)].length = 3 := rfl
                refine g_QS xT_st (As := [.ref q, .ref nq_23]) (rest := []) (wr := [(a, .inl (cA, (L.length, .inl (atL L)))), (h, .inl (cA, ([nI b9, nI e9].length, .inl (atL [nI b9, nI e9]))))]) ⟨hx, hb, hml, hown, hts⟩ (mt_X2_cat l dC dI cA H.size q nq_23 (ckL L b9 e9 k) [abI (atL L b9) + 1, -(atL L b9), -(abI (atL L b9) + 1)] (by first | omega | (simp only [List.length_append, List.length_cons, List.length_nil, List.length_set, turnL_len]; omega))) (va_cwS 2 hts gX2_cut_X2_cat rfl rfl rfl hdX2_cat ⟨Nat.le_of_ble_eq_true rfl, Nat.le_of_ble_eq_true rfl⟩) hP hK hD hS hA trivial [2, 3] (by decide) rfl [0, 1] rfl (by decide) (by decide) rfl hl.1 rfl (Nat.le_of_ble_eq_true rfl) dX2_cut_141 (by show _ ≤ 200; omega) (by show _ ≤ (98 * ((cutL L b9 e9).length + 6) + (cutL L b9 e9).length + 300); omega) (fun u H locs hw_30 hP hD hS => ?_)
                obtain ⟨q_29, rfl⟩ : ∃ z, z = u := ⟨_, rfl⟩
                have hw_30 : True := hw_30
                have hP : va_P (dC, dI) vwCl [(a, .inl (cA, (L.length, .inl (atL L)))), (h, .inl (cA, ([nI b9, nI e9].length, .inl (atL [nI b9, nI e9])))), (q, .inl (cA, ((ckL L b9 e9 k).length, .inl (atL (ckL L b9 e9 k))))), (nq_23, .inl (cA, ([abI (atL L b9) + 1, -(atL L b9), -(abI (atL L b9) + 1)].length, .inl (atL [abI (atL L b9) + 1, -(atL L b9), -(abI (atL L b9) + 1)])))), (q_29, .inl (cA, (((ckL L b9 e9 k) ++ [abI (atL L b9) + 1, -(atL L b9), -(abI (atL L b9) + 1)]).length, .inl (atL ((ckL L b9 e9 k) ++ [abI (atL L b9) + 1, -(atL L b9), -(abI (atL L b9) + 1)])))))] H := hP
                have hD : va_D A [(a, .inl (cA, (L.length, .inl (atL L)))), (h, .inl (cA, ([nI b9, nI e9].length, .inl (atL [nI b9, nI e9])))), (q, .inl (cA, ((ckL L b9 e9 k).length, .inl (atL (ckL L b9 e9 k))))), (nq_23, .inl (cA, ([abI (atL L b9) + 1, -(atL L b9), -(abI (atL L b9) + 1)].length, .inl (atL [abI (atL L b9) + 1, -(atL L b9), -(abI (atL L b9) + 1)])))), (q_29, .inl (cA, (((ckL L b9 e9 k) ++ [abI (atL L b9) + 1, -(atL L b9), -(abI (atL L b9) + 1)]).length, .inl (atL ((ckL L b9 e9 k) ++ [abI (atL L b9) + 1, -(atL L b9), -(abI (atL L b9) + 1)])))))] := hD
                refine W.eq (g2 := F0 m 144 ls [.ref q_29]) rfl ?_
                refine lv_astore (lv' := [(4, .ref q_29), (6, .int (atL L k)), (5, .int (nI k)), (3, .int (abI (atL L b9) + 1)), (2, .int (atL L b9)), (0, .ref a), (1, .ref h)]) hx hb dX2_cut_144 hl (by decide) rfl (fun ls hl => ?_)
                refine lv_iinc (v := nI (k + 1)) (lv' := [(5, .int (nI (k + 1))), (4, .ref q_29), (6, .int (atL L k)), (3, .int (abI (atL L b9) + 1)), (2, .int (atL L b9)), (0, .ref a), (1, .ref h)]) hx hb dX2_cut_146 hl (k := 2) rfl (g_inc _) (by decide) rfl (fun ls hl => ?_)
                refine lv_goto (tgt := 30) hx hb dX2_cut_149 (by decide) ?_
                have hP := g_subP hP [0, 1, 4] (wc := [(a, .inl (cA, (L.length, .inl (atL L)))), (h, .inl (cA, ([nI b9, nI e9].length, .inl (atL [nI b9, nI e9])))), (q_29, .inl (cA, (((ckL L b9 e9 k) ++ [abI (atL L b9) + 1, -(atL L b9), -(abI (atL L b9) + 1)]).length, .inl (atL ((ckL L b9 e9 k) ++ [abI (atL L b9) + 1, -(atL L b9), -(abI (atL L b9) + 1)])))))]) rfl
                have hD := hD.sub (ws' := [(a, .inl (cA, (L.length, .inl (atL L)))), (h, .inl (cA, ([nI b9, nI e9].length, .inl (atL [nI b9, nI e9])))), (q_29, .inl (cA, (((ckL L b9 e9 k) ++ [abI (atL L b9) + 1, -(atL L b9), -(abI (atL L b9) + 1)]).length, .inl (atL ((ckL L b9 e9 k) ++ [abI (atL L b9) + 1, -(atL L b9), -(abI (atL L b9) + 1)])))))]) [0, 1, 4] (by decide) rfl
                rw [show ((ckL L b9 e9 k) ++ [abI (atL L b9) + 1, -(atL L b9), -(abI (atL L b9) + 1)]) = ckL L b9 e9 (k + 1) from by rw [(okx_cut _ hxb _ hy).2.2.1 c76 c126]; exact ck3 (by omega) c35 hup] at hP hD
                have hP : va_P (dC, dI) vwCl [(a, .inl (cA, (L.length, .inl (atL L)))), (h, .inl (cA, ([nI b9, nI e9].length, .inl (atL [nI b9, nI e9])))), (q_29, .inl (cA, ((ckL L b9 e9 (k + 1)).length, .inl (atL (ckL L b9 e9 (k + 1))))))] H := hP
                have hD : va_D A [(a, .inl (cA, (L.length, .inl (atL L)))), (h, .inl (cA, ([nI b9, nI e9].length, .inl (atL [nI b9, nI e9])))), (q_29, .inl (cA, ((ckL L b9 e9 (k + 1)).length, .inl (atL (ckL L b9 e9 (k + 1))))))] := hD
                exact ih30 (k + 1) (d9 + 1) q_29 (by omega) (by omega) (by omega) _ _ (by omega) (by omega) _ _ hP hD hS _ (lv_sub hl [0, 1, 3, 4, 5, 6] rfl)
            · refine lv_aload hx hb dX2_cut_79 (lv_at hl 2 rfl) ?_
              refine lv_iconst (v := 3) hx hb dX2_cut_81 (by decide) ?_
              refine va_newa (atype := .int) (ty := .int) (a0 := (3, .inl (fun _ => 0))) (N' := 3) hx hb (hts (.arrayClass .int) (List.mem_of_getElem? (i := 5) rfl)) rfl hK hP hD hS hA (fun _ => rfl) (by decide) (by decide) (by decide) (by show _ ≤ 200; omega) (by show _ ≤ (98 * ((cutL L b9 e9).length + 6) + (cutL L b9 e9).length + 300); omega) dX2_cut_82 (fun nq_31 cA_32 H hK9 hP hD hS => ?_)
              have eA9 : cA_32 = cA := Option.some.inj ((hK9.2 1 _ rfl).2.symm.trans (hK.2 0 _ rfl).2)
              rw [eA9] at hP hD
              have hP : va_P (dC, dI) vwCl [(a, .inl (cA, (L.length, .inl (atL L)))), (h, .inl (cA, ([nI b9, nI e9].length, .inl (atL [nI b9, nI e9])))), (q, .inl (cA, ((ckL L b9 e9 k).length, .inl (atL (ckL L b9 e9 k))))), (nq_31, .inl (cA, (3, .inl (fun _ => 0))))] H := hP
              have hD : va_D A [(a, .inl (cA, (L.length, .inl (atL L)))), (h, .inl (cA, ([nI b9, nI e9].length, .inl (atL [nI b9, nI e9])))), (q, .inl (cA, ((ckL L b9 e9 k).length, .inl (atL (ckL L b9 e9 k))))), (nq_31, .inl (cA, (3, .inl (fun _ => 0))))] := hD
              refine lv_dup hx hb dX2_cut_84 rfl ?_
              refine lv_iconst (v := 0) hx hb dX2_cut_85 (by decide) ?_
              refine lv_iload_n hx hb dX2_cut_86 rfl (lv_at hl 3 rfl) ?_
              refine lv_ineg hx hb dX2_cut_87 ?_
              refine va_iast hx hb hK hP hD hS 3 0 rfl rfl (vp_in_nI (n := 0) (by omega) (by decide)) dX2_cut_88 (fun H locs hP hD hS => ?_)
              rw [show (0 : Int32).toNatClampNeg = 0 from by decide] at hP hD
              have hP : va_P (dC, dI) vwCl [(a, .inl (cA, (L.length, .inl (atL L)))), (h, .inl (cA, ([nI b9, nI e9].length, .inl (atL [nI b9, nI e9])))), (q, .inl (cA, ((ckL L b9 e9 k).length, .inl (atL (ckL L b9 e9 k))))), (nq_31, .inl (cA, (3, .inl (upd (fun _ => 0) 0 (-(abI (atL L b9) + 1))))))] H := hP
              have hD : va_D A [(a, .inl (cA, (L.length, .inl (atL L)))), (h, .inl (cA, ([nI b9, nI e9].length, .inl (atL [nI b9, nI e9])))), (q, .inl (cA, ((ckL L b9 e9 k).length, .inl (atL (ckL L b9 e9 k))))), (nq_31, .inl (cA, (3, .inl (upd (fun _ => 0) 0 (-(abI (atL L b9) + 1))))))] := hD
              refine lv_dup hx hb dX2_cut_89 rfl ?_
              refine lv_iconst (v := 1) hx hb dX2_cut_90 (by decide) ?_
              refine lv_iload hx hb dX2_cut_91 (lv_at hl 0 rfl) ?_
              refine lv_if_le (tgt := 100) hx hb dX2_cut_93 (by decide) (fun c93 => ?_) (fun c93 => ?_)
              · refine lv_iload_n hx hb dX2_cut_100 rfl (lv_at hl 4 rfl) ?_
                refine lv_ineg hx hb dX2_cut_101 ?_
                refine va_iast hx hb hK hP hD hS 3 0 rfl rfl (vp_in_nI (n := 1) (by omega) (by decide)) dX2_cut_102 (fun H locs hP hD hS => ?_)
                rw [show (1 : Int32).toNatClampNeg = 1 from by decide] at hP hD
                have hP : va_P (dC, dI) vwCl [(a, .inl (cA, (L.length, .inl (atL L)))), (h, .inl (cA, ([nI b9, nI e9].length, .inl (atL [nI b9, nI e9])))), (q, .inl (cA, ((ckL L b9 e9 k).length, .inl (atL (ckL L b9 e9 k))))), (nq_31, .inl (cA, (3, .inl (upd (upd (fun _ => 0) 0 (-(abI (atL L b9) + 1))) 1 (-(atL L b9))))))] H := hP
                have hD : va_D A [(a, .inl (cA, (L.length, .inl (atL L)))), (h, .inl (cA, ([nI b9, nI e9].length, .inl (atL [nI b9, nI e9])))), (q, .inl (cA, ((ckL L b9 e9 k).length, .inl (atL (ckL L b9 e9 k))))), (nq_31, .inl (cA, (3, .inl (upd (upd (fun _ => 0) 0 (-(abI (atL L b9) + 1))) 1 (-(atL L b9))))))] := hD
                refine lv_dup hx hb dX2_cut_103 rfl ?_
                refine lv_iconst (v := 2) hx hb dX2_cut_104 (by decide) ?_
                refine lv_iload_n hx hb dX2_cut_105 rfl (lv_at hl 3 rfl) ?_
                refine va_iast hx hb hK hP hD hS 3 0 rfl rfl (vp_in_nI (n := 2) (by omega) (by decide)) dX2_cut_106 (fun H locs hP hD hS => ?_)
                rw [show (2 : Int32).toNatClampNeg = 2 from by decide] at hP hD
                have hP : va_P (dC, dI) vwCl [(a, .inl (cA, (L.length, .inl (atL L)))), (h, .inl (cA, ([nI b9, nI e9].length, .inl (atL [nI b9, nI e9])))), (q, .inl (cA, ((ckL L b9 e9 k).length, .inl (atL (ckL L b9 e9 k))))), (nq_31, .inl (cA, (3, .inl (upd (upd (upd (fun _ => 0) 0 (-(abI (atL L b9) + 1))) 1 (-(atL L b9))) 2 (abI (atL L b9) + 1)))))] H := hP
                have hD : va_D A [(a, .inl (cA, (L.length, .inl (atL L)))), (h, .inl (cA, ([nI b9, nI e9].length, .inl (atL [nI b9, nI e9])))), (q, .inl (cA, ((ckL L b9 e9 k).length, .inl (atL (ckL L b9 e9 k))))), (nq_31, .inl (cA, (3, .inl (upd (upd (upd (fun _ => 0) 0 (-(abI (atL L b9) + 1))) 1 (-(atL L b9))) 2 (abI (atL L b9) + 1)))))] := hD
                have hP := va_canon hP 3 rfl [-(abI (atL L b9) + 1), -(atL L b9), abI (atL L b9) + 1] rfl ar3
                have hD := va_canonD hD 3 rfl [-(abI (atL L b9) + 1), -(atL L b9), abI (atL L b9) + 1] (cA := cA)
                have hP : va_P (dC, dI) vwCl [(a, .inl (cA, (L.length, .inl (atL L)))), (h, .inl (cA, ([nI b9, nI e9].length, .inl (atL [nI b9, nI e9])))), (q, .inl (cA, ((ckL L b9 e9 k).length, .inl (atL (ckL L b9 e9 k))))), (nq_31, .inl (cA, ([-(abI (atL L b9) + 1), -(atL L b9), abI (atL L b9) + 1].length, .inl (atL [-(abI (atL L b9) + 1), -(atL L b9), abI (atL L b9) + 1]))))] H := hP
                have hD : va_D A [(a, .inl (cA, (L.length, .inl (atL L)))), (h, .inl (cA, ([nI b9, nI e9].length, .inl (atL [nI b9, nI e9])))), (q, .inl (cA, ((ckL L b9 e9 k).length, .inl (atL (ckL L b9 e9 k))))), (nq_31, .inl (cA, ([-(abI (atL L b9) + 1), -(atL L b9), abI (atL L b9) + 1].length, .inl (atL [-(abI (atL L b9) + 1), -(atL L b9), abI (atL L b9) + 1]))))] := hD
                have hl_33 : [-(abI (atL L b9) + 1), -(atL L b9), abI (atL L b9) + 1].length = 3 := rfl
                refine g_QS xT_st (As := [.ref q, .ref nq_31]) (rest := []) (wr := [(a, .inl (cA, (L.length, .inl (atL L)))), (h, .inl (cA, ([nI b9, nI e9].length, .inl (atL [nI b9, nI e9]))))]) ⟨hx, hb, hml, hown, hts⟩ (mt_X2_cat l dC dI cA H.size q nq_31 (ckL L b9 e9 k) [-(abI (atL L b9) + 1), -(atL L b9), abI (atL L b9) + 1] (by first | omega | (simp only [List.length_append, List.length_cons, List.length_nil, List.length_set, turnL_len]; omega))) (va_cwS 2 hts gX2_cut_X2_cat rfl rfl rfl hdX2_cat ⟨Nat.le_of_ble_eq_true rfl, Nat.le_of_ble_eq_true rfl⟩) hP hK hD hS hA trivial [2, 3] (by decide) rfl [0, 1] rfl (by decide) (by decide) rfl hl.1 rfl (Nat.le_of_ble_eq_true rfl) dX2_cut_107 (by show _ ≤ 200; omega) (by show _ ≤ (98 * ((cutL L b9 e9).length + 6) + (cutL L b9 e9).length + 300); omega) (fun u H locs hw_35 hP hD hS => ?_)
                obtain ⟨q_34, rfl⟩ : ∃ z, z = u := ⟨_, rfl⟩
                have hw_35 : True := hw_35
                have hP : va_P (dC, dI) vwCl [(a, .inl (cA, (L.length, .inl (atL L)))), (h, .inl (cA, ([nI b9, nI e9].length, .inl (atL [nI b9, nI e9])))), (q, .inl (cA, ((ckL L b9 e9 k).length, .inl (atL (ckL L b9 e9 k))))), (nq_31, .inl (cA, ([-(abI (atL L b9) + 1), -(atL L b9), abI (atL L b9) + 1].length, .inl (atL [-(abI (atL L b9) + 1), -(atL L b9), abI (atL L b9) + 1])))), (q_34, .inl (cA, (((ckL L b9 e9 k) ++ [-(abI (atL L b9) + 1), -(atL L b9), abI (atL L b9) + 1]).length, .inl (atL ((ckL L b9 e9 k) ++ [-(abI (atL L b9) + 1), -(atL L b9), abI (atL L b9) + 1])))))] H := hP
                have hD : va_D A [(a, .inl (cA, (L.length, .inl (atL L)))), (h, .inl (cA, ([nI b9, nI e9].length, .inl (atL [nI b9, nI e9])))), (q, .inl (cA, ((ckL L b9 e9 k).length, .inl (atL (ckL L b9 e9 k))))), (nq_31, .inl (cA, ([-(abI (atL L b9) + 1), -(atL L b9), abI (atL L b9) + 1].length, .inl (atL [-(abI (atL L b9) + 1), -(atL L b9), abI (atL L b9) + 1])))), (q_34, .inl (cA, (((ckL L b9 e9 k) ++ [-(abI (atL L b9) + 1), -(atL L b9), abI (atL L b9) + 1]).length, .inl (atL ((ckL L b9 e9 k) ++ [-(abI (atL L b9) + 1), -(atL L b9), abI (atL L b9) + 1])))))] := hD
                refine W.eq (g2 := F0 m 110 ls [.ref q_34]) rfl ?_
                refine lv_goto (tgt := 144) hx hb dX2_cut_110 (by decide) ?_
                refine lv_astore (lv' := [(4, .ref q_34), (6, .int (atL L k)), (5, .int (nI k)), (3, .int (abI (atL L b9) + 1)), (2, .int (atL L b9)), (0, .ref a), (1, .ref h)]) hx hb dX2_cut_144 hl (by decide) rfl (fun ls hl => ?_)
                refine lv_iinc (v := nI (k + 1)) (lv' := [(5, .int (nI (k + 1))), (4, .ref q_34), (6, .int (atL L k)), (3, .int (abI (atL L b9) + 1)), (2, .int (atL L b9)), (0, .ref a), (1, .ref h)]) hx hb dX2_cut_146 hl (k := 2) rfl (g_inc _) (by decide) rfl (fun ls hl => ?_)
                refine lv_goto (tgt := 30) hx hb dX2_cut_149 (by decide) ?_
                have hP := g_subP hP [0, 1, 4] (wc := [(a, .inl (cA, (L.length, .inl (atL L)))), (h, .inl (cA, ([nI b9, nI e9].length, .inl (atL [nI b9, nI e9])))), (q_34, .inl (cA, (((ckL L b9 e9 k) ++ [-(abI (atL L b9) + 1), -(atL L b9), abI (atL L b9) + 1]).length, .inl (atL ((ckL L b9 e9 k) ++ [-(abI (atL L b9) + 1), -(atL L b9), abI (atL L b9) + 1])))))]) rfl
                have hD := hD.sub (ws' := [(a, .inl (cA, (L.length, .inl (atL L)))), (h, .inl (cA, ([nI b9, nI e9].length, .inl (atL [nI b9, nI e9])))), (q_34, .inl (cA, (((ckL L b9 e9 k) ++ [-(abI (atL L b9) + 1), -(atL L b9), abI (atL L b9) + 1]).length, .inl (atL ((ckL L b9 e9 k) ++ [-(abI (atL L b9) + 1), -(atL L b9), abI (atL L b9) + 1])))))]) [0, 1, 4] (by decide) rfl
                rw [show ((ckL L b9 e9 k) ++ [-(abI (atL L b9) + 1), -(atL L b9), abI (atL L b9) + 1]) = ckL L b9 e9 (k + 1) from by rw [(okx_cut _ hxb _ hy).2.1 c76 c93]; exact ck3 (by omega) c35 hup] at hP hD
                have hP : va_P (dC, dI) vwCl [(a, .inl (cA, (L.length, .inl (atL L)))), (h, .inl (cA, ([nI b9, nI e9].length, .inl (atL [nI b9, nI e9])))), (q_34, .inl (cA, ((ckL L b9 e9 (k + 1)).length, .inl (atL (ckL L b9 e9 (k + 1))))))] H := hP
                have hD : va_D A [(a, .inl (cA, (L.length, .inl (atL L)))), (h, .inl (cA, ([nI b9, nI e9].length, .inl (atL [nI b9, nI e9])))), (q_34, .inl (cA, ((ckL L b9 e9 (k + 1)).length, .inl (atL (ckL L b9 e9 (k + 1))))))] := hD
                exact ih30 (k + 1) (d9 + 1) q_34 (by omega) (by omega) (by omega) _ _ (by omega) (by omega) _ _ hP hD hS _ (lv_sub hl [0, 1, 3, 4, 5, 6] rfl)
              · refine lv_iload_n hx hb dX2_cut_96 rfl (lv_at hl 4 rfl) ?_
                refine lv_goto (tgt := 102) hx hb dX2_cut_97 (by decide) ?_
                refine va_iast hx hb hK hP hD hS 3 0 rfl rfl (vp_in_nI (n := 1) (by omega) (by decide)) dX2_cut_102 (fun H locs hP hD hS => ?_)
                rw [show (1 : Int32).toNatClampNeg = 1 from by decide] at hP hD
                have hP : va_P (dC, dI) vwCl [(a, .inl (cA, (L.length, .inl (atL L)))), (h, .inl (cA, ([nI b9, nI e9].length, .inl (atL [nI b9, nI e9])))), (q, .inl (cA, ((ckL L b9 e9 k).length, .inl (atL (ckL L b9 e9 k))))), (nq_31, .inl (cA, (3, .inl (upd (upd (fun _ => 0) 0 (-(abI (atL L b9) + 1))) 1 (atL L b9)))))] H := hP
                have hD : va_D A [(a, .inl (cA, (L.length, .inl (atL L)))), (h, .inl (cA, ([nI b9, nI e9].length, .inl (atL [nI b9, nI e9])))), (q, .inl (cA, ((ckL L b9 e9 k).length, .inl (atL (ckL L b9 e9 k))))), (nq_31, .inl (cA, (3, .inl (upd (upd (fun _ => 0) 0 (-(abI (atL L b9) + 1))) 1 (atL L b9)))))] := hD
                refine lv_dup hx hb dX2_cut_103 rfl ?_
                refine lv_iconst (v := 2) hx hb dX2_cut_104 (by decide) ?_
                refine lv_iload_n hx hb dX2_cut_105 rfl (lv_at hl 3 rfl) ?_
                refine va_iast hx hb hK hP hD hS 3 0 rfl rfl (vp_in_nI (n := 2) (by omega) (by decide)) dX2_cut_106 (fun H locs hP hD hS => ?_)
                rw [show (2 : Int32).toNatClampNeg = 2 from by decide] at hP hD
                have hP : va_P (dC, dI) vwCl [(a, .inl (cA, (L.length, .inl (atL L)))), (h, .inl (cA, ([nI b9, nI e9].length, .inl (atL [nI b9, nI e9])))), (q, .inl (cA, ((ckL L b9 e9 k).length, .inl (atL (ckL L b9 e9 k))))), (nq_31, .inl (cA, (3, .inl (upd (upd (upd (fun _ => 0) 0 (-(abI (atL L b9) + 1))) 1 (atL L b9)) 2 (abI (atL L b9) + 1)))))] H := hP
                have hD : va_D A [(a, .inl (cA, (L.length, .inl (atL L)))), (h, .inl (cA, ([nI b9, nI e9].length, .inl (atL [nI b9, nI e9])))), (q, .inl (cA, ((ckL L b9 e9 k).length, .inl (atL (ckL L b9 e9 k))))), (nq_31, .inl (cA, (3, .inl (upd (upd (upd (fun _ => 0) 0 (-(abI (atL L b9) + 1))) 1 (atL L b9)) 2 (abI (atL L b9) + 1)))))] := hD
                have hP := va_canon hP 3 rfl [-(abI (atL L b9) + 1), atL L b9, abI (atL L b9) + 1] rfl ar3
                have hD := va_canonD hD 3 rfl [-(abI (atL L b9) + 1), atL L b9, abI (atL L b9) + 1] (cA := cA)
                have hP : va_P (dC, dI) vwCl [(a, .inl (cA, (L.length, .inl (atL L)))), (h, .inl (cA, ([nI b9, nI e9].length, .inl (atL [nI b9, nI e9])))), (q, .inl (cA, ((ckL L b9 e9 k).length, .inl (atL (ckL L b9 e9 k))))), (nq_31, .inl (cA, ([-(abI (atL L b9) + 1), atL L b9, abI (atL L b9) + 1].length, .inl (atL [-(abI (atL L b9) + 1), atL L b9, abI (atL L b9) + 1]))))] H := hP
                have hD : va_D A [(a, .inl (cA, (L.length, .inl (atL L)))), (h, .inl (cA, ([nI b9, nI e9].length, .inl (atL [nI b9, nI e9])))), (q, .inl (cA, ((ckL L b9 e9 k).length, .inl (atL (ckL L b9 e9 k))))), (nq_31, .inl (cA, ([-(abI (atL L b9) + 1), atL L b9, abI (atL L b9) + 1].length, .inl (atL [-(abI (atL L b9) + 1), atL L b9, abI (atL L b9) + 1]))))] := hD
                have hl_36 : [-(abI (atL L b9) + 1), atL L b9, abI (atL L b9) + 1].length = 3 := rfl
                refine g_QS xT_st (As := [.ref q, .ref nq_31]) (rest := []) (wr := [(a, .inl (cA, (L.length, .inl (atL L)))), (h, .inl (cA, ([nI b9, nI e9].length, .inl (atL [nI b9, nI e9]))))]) ⟨hx, hb, hml, hown, hts⟩ (mt_X2_cat l dC dI cA H.size q nq_31 (ckL L b9 e9 k) [-(abI (atL L b9) + 1), atL L b9, abI (atL L b9) + 1] (by first | omega | (simp only [List.length_append, List.length_cons, List.length_nil, List.length_set, turnL_len]; omega))) (va_cwS 2 hts gX2_cut_X2_cat rfl rfl rfl hdX2_cat ⟨Nat.le_of_ble_eq_true rfl, Nat.le_of_ble_eq_true rfl⟩) hP hK hD hS hA trivial [2, 3] (by decide) rfl [0, 1] rfl (by decide) (by decide) rfl hl.1 rfl (Nat.le_of_ble_eq_true rfl) dX2_cut_107 (by show _ ≤ 200; omega) (by show _ ≤ (98 * ((cutL L b9 e9).length + 6) + (cutL L b9 e9).length + 300); omega) (fun u H locs hw_38 hP hD hS => ?_)
                obtain ⟨q_37, rfl⟩ : ∃ z, z = u := ⟨_, rfl⟩
                have hw_38 : True := hw_38
                have hP : va_P (dC, dI) vwCl [(a, .inl (cA, (L.length, .inl (atL L)))), (h, .inl (cA, ([nI b9, nI e9].length, .inl (atL [nI b9, nI e9])))), (q, .inl (cA, ((ckL L b9 e9 k).length, .inl (atL (ckL L b9 e9 k))))), (nq_31, .inl (cA, ([-(abI (atL L b9) + 1), atL L b9, abI (atL L b9) + 1].length, .inl (atL [-(abI (atL L b9) + 1), atL L b9, abI (atL L b9) + 1])))), (q_37, .inl (cA, (((ckL L b9 e9 k) ++ [-(abI (atL L b9) + 1), atL L b9, abI (atL L b9) + 1]).length, .inl (atL ((ckL L b9 e9 k) ++ [-(abI (atL L b9) + 1), atL L b9, abI (atL L b9) + 1])))))] H := hP
                have hD : va_D A [(a, .inl (cA, (L.length, .inl (atL L)))), (h, .inl (cA, ([nI b9, nI e9].length, .inl (atL [nI b9, nI e9])))), (q, .inl (cA, ((ckL L b9 e9 k).length, .inl (atL (ckL L b9 e9 k))))), (nq_31, .inl (cA, ([-(abI (atL L b9) + 1), atL L b9, abI (atL L b9) + 1].length, .inl (atL [-(abI (atL L b9) + 1), atL L b9, abI (atL L b9) + 1])))), (q_37, .inl (cA, (((ckL L b9 e9 k) ++ [-(abI (atL L b9) + 1), atL L b9, abI (atL L b9) + 1]).length, .inl (atL ((ckL L b9 e9 k) ++ [-(abI (atL L b9) + 1), atL L b9, abI (atL L b9) + 1])))))] := hD
                refine W.eq (g2 := F0 m 110 ls [.ref q_37]) rfl ?_
                refine lv_goto (tgt := 144) hx hb dX2_cut_110 (by decide) ?_
                refine lv_astore (lv' := [(4, .ref q_37), (6, .int (atL L k)), (5, .int (nI k)), (3, .int (abI (atL L b9) + 1)), (2, .int (atL L b9)), (0, .ref a), (1, .ref h)]) hx hb dX2_cut_144 hl (by decide) rfl (fun ls hl => ?_)
                refine lv_iinc (v := nI (k + 1)) (lv' := [(5, .int (nI (k + 1))), (4, .ref q_37), (6, .int (atL L k)), (3, .int (abI (atL L b9) + 1)), (2, .int (atL L b9)), (0, .ref a), (1, .ref h)]) hx hb dX2_cut_146 hl (k := 2) rfl (g_inc _) (by decide) rfl (fun ls hl => ?_)
                refine lv_goto (tgt := 30) hx hb dX2_cut_149 (by decide) ?_
                have hP := g_subP hP [0, 1, 4] (wc := [(a, .inl (cA, (L.length, .inl (atL L)))), (h, .inl (cA, ([nI b9, nI e9].length, .inl (atL [nI b9, nI e9])))), (q_37, .inl (cA, (((ckL L b9 e9 k) ++ [-(abI (atL L b9) + 1), atL L b9, abI (atL L b9) + 1]).length, .inl (atL ((ckL L b9 e9 k) ++ [-(abI (atL L b9) + 1), atL L b9, abI (atL L b9) + 1])))))]) rfl
                have hD := hD.sub (ws' := [(a, .inl (cA, (L.length, .inl (atL L)))), (h, .inl (cA, ([nI b9, nI e9].length, .inl (atL [nI b9, nI e9])))), (q_37, .inl (cA, (((ckL L b9 e9 k) ++ [-(abI (atL L b9) + 1), atL L b9, abI (atL L b9) + 1]).length, .inl (atL ((ckL L b9 e9 k) ++ [-(abI (atL L b9) + 1), atL L b9, abI (atL L b9) + 1])))))]) [0, 1, 4] (by decide) rfl
                rw [show ((ckL L b9 e9 k) ++ [-(abI (atL L b9) + 1), atL L b9, abI (atL L b9) + 1]) = ckL L b9 e9 (k + 1) from by rw [(okx_cut _ hxb _ hy).1 c76 c93]; exact ck3 (by omega) c35 hup] at hP hD
                have hP : va_P (dC, dI) vwCl [(a, .inl (cA, (L.length, .inl (atL L)))), (h, .inl (cA, ([nI b9, nI e9].length, .inl (atL [nI b9, nI e9])))), (q_37, .inl (cA, ((ckL L b9 e9 (k + 1)).length, .inl (atL (ckL L b9 e9 (k + 1))))))] H := hP
                have hD : va_D A [(a, .inl (cA, (L.length, .inl (atL L)))), (h, .inl (cA, ([nI b9, nI e9].length, .inl (atL [nI b9, nI e9])))), (q_37, .inl (cA, ((ckL L b9 e9 (k + 1)).length, .inl (atL (ckL L b9 e9 (k + 1))))))] := hD
                exact ih30 (k + 1) (d9 + 1) q_37 (by omega) (by omega) (by omega) _ _ (by omega) (by omega) _ _ hP hD hS _ (lv_sub hl [0, 1, 3, 4, 5, 6] rfl)
          · have hnup := (okx_ab _ hxb _ hy).2.2 c47 c54
            refine lv_aload hx hb dX2_cut_57 (lv_at hl 2 rfl) ?_
            refine lv_iconst (v := 1) hx hb dX2_cut_59 (by decide) ?_
            refine va_newa (atype := .int) (ty := .int) (a0 := (1, .inl (fun _ => 0))) (N' := 1) hx hb (hts (.arrayClass .int) (List.mem_of_getElem? (i := 5) rfl)) rfl hK hP hD hS hA (fun _ => rfl) (by decide) (by decide) (by decide) (by show _ ≤ 200; omega) (by show _ ≤ (98 * ((cutL L b9 e9).length + 6) + (cutL L b9 e9).length + 300); omega) dX2_cut_60 (fun nq_39 cA_40 H hK9 hP hD hS => ?_)
            have eA9 : cA_40 = cA := Option.some.inj ((hK9.2 1 _ rfl).2.symm.trans (hK.2 0 _ rfl).2)
            rw [eA9] at hP hD
            have hP : va_P (dC, dI) vwCl [(a, .inl (cA, (L.length, .inl (atL L)))), (h, .inl (cA, ([nI b9, nI e9].length, .inl (atL [nI b9, nI e9])))), (q, .inl (cA, ((ckL L b9 e9 k).length, .inl (atL (ckL L b9 e9 k))))), (nq_39, .inl (cA, (1, .inl (fun _ => 0))))] H := hP
            have hD : va_D A [(a, .inl (cA, (L.length, .inl (atL L)))), (h, .inl (cA, ([nI b9, nI e9].length, .inl (atL [nI b9, nI e9])))), (q, .inl (cA, ((ckL L b9 e9 k).length, .inl (atL (ckL L b9 e9 k))))), (nq_39, .inl (cA, (1, .inl (fun _ => 0))))] := hD
            refine lv_dup hx hb dX2_cut_62 rfl ?_
            refine lv_iconst (v := 0) hx hb dX2_cut_63 (by decide) ?_
            refine lv_iload hx hb dX2_cut_64 (lv_at hl 0 rfl) ?_
            refine va_iast hx hb hK hP hD hS 3 0 rfl rfl (vp_in_nI (n := 0) (by omega) (by decide)) dX2_cut_66 (fun H locs hP hD hS => ?_)
            rw [show (0 : Int32).toNatClampNeg = 0 from by decide] at hP hD
            have hP : va_P (dC, dI) vwCl [(a, .inl (cA, (L.length, .inl (atL L)))), (h, .inl (cA, ([nI b9, nI e9].length, .inl (atL [nI b9, nI e9])))), (q, .inl (cA, ((ckL L b9 e9 k).length, .inl (atL (ckL L b9 e9 k))))), (nq_39, .inl (cA, (1, .inl (upd (fun _ => 0) 0 (atL L k)))))] H := hP
            have hD : va_D A [(a, .inl (cA, (L.length, .inl (atL L)))), (h, .inl (cA, ([nI b9, nI e9].length, .inl (atL [nI b9, nI e9])))), (q, .inl (cA, ((ckL L b9 e9 k).length, .inl (atL (ckL L b9 e9 k))))), (nq_39, .inl (cA, (1, .inl (upd (fun _ => 0) 0 (atL L k)))))] := hD
            have hP := va_canon hP 3 rfl [atL L k] rfl ar1
            have hD := va_canonD hD 3 rfl [atL L k] (cA := cA)
            have hP : va_P (dC, dI) vwCl [(a, .inl (cA, (L.length, .inl (atL L)))), (h, .inl (cA, ([nI b9, nI e9].length, .inl (atL [nI b9, nI e9])))), (q, .inl (cA, ((ckL L b9 e9 k).length, .inl (atL (ckL L b9 e9 k))))), (nq_39, .inl (cA, ([atL L k].length, .inl (atL [atL L k]))))] H := hP
            have hD : va_D A [(a, .inl (cA, (L.length, .inl (atL L)))), (h, .inl (cA, ([nI b9, nI e9].length, .inl (atL [nI b9, nI e9])))), (q, .inl (cA, ((ckL L b9 e9 k).length, .inl (atL (ckL L b9 e9 k))))), (nq_39, .inl (cA, ([atL L k].length, .inl (atL [atL L k]))))] := hD
            have hl_41 : [atL L k].length = 1 := rfl
            refine g_QS xT_st (As := [.ref q, .ref nq_39]) (rest := []) (wr := [(a, .inl (cA, (L.length, .inl (atL L)))), (h, .inl (cA, ([nI b9, nI e9].length, .inl (atL [nI b9, nI e9]))))]) ⟨hx, hb, hml, hown, hts⟩ (mt_X2_cat l dC dI cA H.size q nq_39 (ckL L b9 e9 k) [atL L k] (by first | omega | (simp only [List.length_append, List.length_cons, List.length_nil, List.length_set, turnL_len]; omega))) (va_cwS 2 hts gX2_cut_X2_cat rfl rfl rfl hdX2_cat ⟨Nat.le_of_ble_eq_true rfl, Nat.le_of_ble_eq_true rfl⟩) hP hK hD hS hA trivial [2, 3] (by decide) rfl [0, 1] rfl (by decide) (by decide) rfl hl.1 rfl (Nat.le_of_ble_eq_true rfl) dX2_cut_67 (by show _ ≤ 200; omega) (by show _ ≤ (98 * ((cutL L b9 e9).length + 6) + (cutL L b9 e9).length + 300); omega) (fun u H locs hw_43 hP hD hS => ?_)
            obtain ⟨q_42, rfl⟩ : ∃ z, z = u := ⟨_, rfl⟩
            have hw_43 : True := hw_43
            have hP : va_P (dC, dI) vwCl [(a, .inl (cA, (L.length, .inl (atL L)))), (h, .inl (cA, ([nI b9, nI e9].length, .inl (atL [nI b9, nI e9])))), (q, .inl (cA, ((ckL L b9 e9 k).length, .inl (atL (ckL L b9 e9 k))))), (nq_39, .inl (cA, ([atL L k].length, .inl (atL [atL L k])))), (q_42, .inl (cA, (((ckL L b9 e9 k) ++ [atL L k]).length, .inl (atL ((ckL L b9 e9 k) ++ [atL L k])))))] H := hP
            have hD : va_D A [(a, .inl (cA, (L.length, .inl (atL L)))), (h, .inl (cA, ([nI b9, nI e9].length, .inl (atL [nI b9, nI e9])))), (q, .inl (cA, ((ckL L b9 e9 k).length, .inl (atL (ckL L b9 e9 k))))), (nq_39, .inl (cA, ([atL L k].length, .inl (atL [atL L k])))), (q_42, .inl (cA, (((ckL L b9 e9 k) ++ [atL L k]).length, .inl (atL ((ckL L b9 e9 k) ++ [atL L k])))))] := hD
            refine W.eq (g2 := F0 m 70 ls [.ref q_42]) rfl ?_
            refine lv_astore (lv' := [(4, .ref q_42), (6, .int (atL L k)), (5, .int (nI k)), (3, .int (abI (atL L b9) + 1)), (2, .int (atL L b9)), (0, .ref a), (1, .ref h)]) hx hb dX2_cut_70 hl (by decide) rfl (fun ls hl => ?_)
            refine lv_goto (tgt := 146) hx hb dX2_cut_72 (by decide) ?_
            refine lv_iinc (v := nI (k + 1)) (lv' := [(5, .int (nI (k + 1))), (4, .ref q_42), (6, .int (atL L k)), (3, .int (abI (atL L b9) + 1)), (2, .int (atL L b9)), (0, .ref a), (1, .ref h)]) hx hb dX2_cut_146 hl (k := 2) rfl (g_inc _) (by decide) rfl (fun ls hl => ?_)
            refine lv_goto (tgt := 30) hx hb dX2_cut_149 (by decide) ?_
            have hP := g_subP hP [0, 1, 4] (wc := [(a, .inl (cA, (L.length, .inl (atL L)))), (h, .inl (cA, ([nI b9, nI e9].length, .inl (atL [nI b9, nI e9])))), (q_42, .inl (cA, (((ckL L b9 e9 k) ++ [atL L k]).length, .inl (atL ((ckL L b9 e9 k) ++ [atL L k])))))]) rfl
            have hD := hD.sub (ws' := [(a, .inl (cA, (L.length, .inl (atL L)))), (h, .inl (cA, ([nI b9, nI e9].length, .inl (atL [nI b9, nI e9])))), (q_42, .inl (cA, (((ckL L b9 e9 k) ++ [atL L k]).length, .inl (atL ((ckL L b9 e9 k) ++ [atL L k])))))]) [0, 1, 4] (by decide) rfl
            rw [show ((ckL L b9 e9 k) ++ [atL L k]) = ckL L b9 e9 (k + 1) from ck1 (by omega) c35 hnup] at hP hD
            have hP : va_P (dC, dI) vwCl [(a, .inl (cA, (L.length, .inl (atL L)))), (h, .inl (cA, ([nI b9, nI e9].length, .inl (atL [nI b9, nI e9])))), (q_42, .inl (cA, ((ckL L b9 e9 (k + 1)).length, .inl (atL (ckL L b9 e9 (k + 1))))))] H := hP
            have hD : va_D A [(a, .inl (cA, (L.length, .inl (atL L)))), (h, .inl (cA, ([nI b9, nI e9].length, .inl (atL [nI b9, nI e9])))), (q_42, .inl (cA, ((ckL L b9 e9 (k + 1)).length, .inl (atL (ckL L b9 e9 (k + 1))))))] := hD
            exact ih30 (k + 1) (d9 + 1) q_42 (by omega) (by omega) (by omega) _ _ (by omega) (by omega) _ _ hP hD hS _ (lv_sub hl [0, 1, 3, 4, 5, 6] rfl)
  exact lp30 ((e9 - (b9 + 1)) + 1) (b9 + 1) 0 q_1 (by omega) (by omega) (Nat.lt_succ_self _) _ _ (by omega) (by omega) _ _ hP hD hS _ (lv_sub hl [0, 1, 2, 3, 4, 5] rfl)
