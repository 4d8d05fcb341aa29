theorem hgF_st {L : List Int32} {k hh : Nat} (e : hh = htN (atL L k)) (p : Nat) : hgF L (k + 1) p = if p = hh - 1 then hgF L k hh else if p = hh then hgF L k (hh - 1) else hgF L k p := by
  rw [e]
  rfl
theorem leS_of {rn : Nat} (hr : rn ∈ rnS) {L : List Int32} (h : okL rn L) : leS L L.length = abI (loL L (L.length - 1)) := by
  by_cases c : 0 < L.length
  · exact lo_le hr h c
  · have e : L = [] := List.length_eq_zero_iff.mp (by omega)
    subst e
    decide
set_option maxRecDepth 20000 in
theorem in_X2_hang_2 : ∀ w ∈ wsX20, w ∈ wsX2_hang := by decide +kernel
set_option maxRecDepth 20000 in
theorem in_X2_endOf_2 : ∀ w ∈ wsX20, w ∈ wsX2_endOf := by decide +kernel
set_option maxRecDepth 20000 in
theorem in_X2_signs_2 : ∀ w ∈ wsX20, w ∈ wsX2_signs := by decide +kernel
set_option maxRecDepth 20000 in
theorem in_X2_counted_2 : ∀ w ∈ wsX20, w ∈ wsX2_counted := by decide +kernel
set_option maxRecDepth 20000 in
theorem in_X2_plainTold_2 : ∀ w ∈ wsX20, w ∈ wsX2_plainTold := by decide +kernel
set_option maxRecDepth 20000 in
theorem in_X2_sameTold_2 : ∀ w ∈ wsX20, w ∈ wsX2_sameTold := by decide +kernel
set_option maxRecDepth 20000 in
theorem in_X2_aheadTold_2 : ∀ w ∈ wsX20, w ∈ wsX2_aheadTold := by decide +kernel
set_option maxRecDepth 20000 in
theorem in_X2_with_2 : ∀ w ∈ wsX20, w ∈ wsX2_with := by decide +kernel
theorem hdX2_hang : yX2_hang.cls = RX2 ∧ yX2_hang.cls ≠ "java/lang/invoke/MethodHandle" ∧ yX2_hang.cls ≠ "java/lang/invoke/VarHandle" ∧ (parseMethodDescriptor yX2_hang.desc).map (fun d => d.parameters.length) = some 3 := by decide +kernel
theorem hdX2_load : yX2_load.cls = RX2 ∧ yX2_load.cls ≠ "java/lang/invoke/MethodHandle" ∧ yX2_load.cls ≠ "java/lang/invoke/VarHandle" ∧ (parseMethodDescriptor yX2_load.desc).map (fun d => d.parameters.length) = some 1 := by decide +kernel
theorem hdX2_loadBoth : yX2_loadBoth.cls = RX2 ∧ yX2_loadBoth.cls ≠ "java/lang/invoke/MethodHandle" ∧ yX2_loadBoth.cls ≠ "java/lang/invoke/VarHandle" ∧ (parseMethodDescriptor yX2_loadBoth.desc).map (fun d => d.parameters.length) = some 0 := by decide +kernel
theorem hdX2_makePlain : yX2_makePlain.cls = RX2 ∧ yX2_makePlain.cls ≠ "java/lang/invoke/MethodHandle" ∧ yX2_makePlain.cls ≠ "java/lang/invoke/VarHandle" ∧ (parseMethodDescriptor yX2_makePlain.desc).map (fun d => d.parameters.length) = some 0 := by decide +kernel
theorem hdX2_more : yX2_more.cls = RX2 ∧ yX2_more.cls ≠ "java/lang/invoke/MethodHandle" ∧ yX2_more.cls ≠ "java/lang/invoke/VarHandle" ∧ (parseMethodDescriptor yX2_more.desc).map (fun d => d.parameters.length) = some 1 := by decide +kernel
theorem hdX2_sign : yX2_sign.cls = RX2 ∧ yX2_sign.cls ≠ "java/lang/invoke/MethodHandle" ∧ yX2_sign.cls ≠ "java/lang/invoke/VarHandle" ∧ (parseMethodDescriptor yX2_sign.desc).map (fun d => d.parameters.length) = some 0 := by decide +kernel
theorem hdX2_signs : yX2_signs.cls = RX2 ∧ yX2_signs.cls ≠ "java/lang/invoke/MethodHandle" ∧ yX2_signs.cls ≠ "java/lang/invoke/VarHandle" ∧ (parseMethodDescriptor yX2_signs.desc).map (fun d => d.parameters.length) = some 1 := by decide +kernel
abbrev mt_X2_hang_rm : Room := { frames := 1, cells := 0, slots := 0, locals := 22 }
set_option maxHeartbeats 4000000 in
set_option maxRecDepth 100000 in
theorem mt_X2_hang (l : Launch) (dC : Nat → ClassId) (dI : Nat → Nat → Nat) (cA : ClassId) (sz : Nat) (y0 : Nat) (q1 : Nat) (q2 : Nat) (q3 : Nat) (q4 : Nat) (q5 : Nat) (rn : Nat) (tv : Int32) (sf : Nat → Int32) (lf : Nat → Int32) (mn : Int32) (rf : Nat → Int32) (nf : Nat → Int32) (ct : Int32) (il : Int32) (gf : Nat → Int32) (Vw : Nat → List Int32) (w : Nat) (a : Int32) (b : Int32) (hW : MW Vw sf lf) (hrn : rn ∈ rnS) (hr6 : rn ≤ 6) (hok : ∀ w, w < 2 → okL rn (Vw w)) (hw : w < 2) : Met l yX2_hang wsX2_hang mt_X2_hang_rm (va_Pc [.ref y0, .int (nI w), .int a, .int b] (gB (dC, dI) [(cA, .int)] [(y0, .inr (2, [.int tv, .int (nI rn), .ref q1, .ref q2, .int mn, .ref q3, .ref q4, .int ct, .int il, .ref q5])), (q1, .inl (cA, (2, .inl sf))), (q2, .inl (cA, (60, .inl lf))), (q3, .inl (cA, (320, .inl rf))), (q4, .inl (cA, (320, .inl nf))), (q5, .inl (cA, (6, .inl gf)))] sz)) (gM (dC, dI) (some (.int (hsS (Vw w) a b (Vw w).length))) (fun u : (Nat → Int32) => ∀ p, p < rn → u p = hgF (Vw w) (Vw w).length p) (fun u : (Nat → Int32) => [(y0, .inr (2, [.int tv, .int (nI rn), .ref q1, .ref q2, .int mn, .ref q3, .ref q4, .int ct, .int il, .ref q5])), (q1, .inl (cA, (2, .inl sf))), (q2, .inl (cA, (60, .inl lf))), (q3, .inl (cA, (320, .inl rf))), (q4, .inl (cA, (320, .inl nf))), (q5, .inl (cA, (6, .inl u)))]) (va_A [(y0, .inr (2, [.int tv, .int (nI rn), .ref q1, .ref q2, .int mn, .ref q3, .ref q4, .int ct, .int il, .ref q5])), (q1, .inl (cA, (2, .inl sf))), (q2, .inl (cA, (60, .inl lf))), (q3, .inl (cA, (320, .inl rf))), (q4, .inl (cA, (320, .inl nf))), (q5, .inl (cA, (6, .inl gf)))] sz)) 0 0 (va_A [(y0, .inr (2, [.int tv, .int (nI rn), .ref q1, .ref q2, .int mn, .ref q3, .ref q4, .int ct, .int il, .ref q5])), (q1, .inl (cA, (2, .inl sf))), (q2, .inl (cA, (60, .inl lf))), (q3, .inl (cA, (320, .inl rf))), (q4, .inl (cA, (320, .inl nf))), (q5, .inl (cA, (6, .inl gf)))] sz) := by
  refine g_ofM (cc := cX2_hang) (maxL := 9) (ret := (some .int)) (by decide) rfl (Nat.le_of_ble_eq_true rfl) (fun p e s m below meth c ls hx hb hr hml hts hown hlocks hP hK hl hin A hA hD hS => ?_)
  have hl : lv_has ls 9 [(0, .ref y0), (1, .int (nI w)), (2, .int a), (3, .int b)] := hl
  have hWl := (hW w hw).2.1
  refine lv_iconst (v := 0) hx hb dX2_hang_0 (by decide) ?_
  refine lv_istore (lv' := [(4, .int 0), (0, .ref y0), (1, .int (nI w)), (2, .int a), (3, .int b)]) hx hb dX2_hang_1 hl (by decide) rfl (fun ls hl => ?_)
  refine lv_iconst (v := 0) hx hb dX2_hang_3 (by decide) ?_
  refine lv_istore (lv' := [(5, .int 0), (4, .int 0), (0, .ref y0), (1, .int (nI w)), (2, .int a), (3, .int b)]) hx hb dX2_hang_4 hl (by decide) rfl (fun ls hl => ?_)
  have lp6 : ∀ (d : Nat) (k : Nat) (g1 : Nat → Int32) (hk9 : k ≤ rn) (hg1 : ∀ p, p < k → g1 p = nI p), rn - k < d → ∀ (H : Heap) (locs : List Loc), va_P (dC, dI) vwCl [(y0, .inr (2, [.int tv, .int (nI rn), .ref q1, .ref q2, .int mn, .ref q3, .ref q4, .int ct, .int il, .ref q5])), (q1, .inl (cA, (2, .inl sf))), (q2, .inl (cA, (60, .inl lf))), (q3, .inl (cA, (320, .inl rf))), (q4, .inl (cA, (320, .inl nf))), (q5, .inl (cA, (6, .inl g1)))] H → va_D A [(y0, .inr (2, [.int tv, .int (nI rn), .ref q1, .ref q2, .int mn, .ref q3, .ref q4, .int ct, .int il, .ref q5])), (q1, .inl (cA, (2, .inl sf))), (q2, .inl (cA, (60, .inl lf))), (q3, .inl (cA, (320, .inl rf))), (q4, .inl (cA, (320, .inl nf))), (q5, .inl (cA, (6, .inl g1)))] → va_S A s.heap H locs → ∀ ls : Array Slot, lv_has ls 9 [(5, .int (nI k)), (4, .int 0), (0, .ref y0), (1, .int (nI w)), (2, .int a), (3, .int b)] → W p l e mt_X2_hang_rm s m ([.ref y0, .int (nI w), .int a, .int b] : List Value).toArray below meth c H locs 0 0 (MQ below (gM (dC, dI) (some (.int (hsS (Vw w) a b (Vw w).length))) (fun u : (Nat → Int32) => ∀ p, p < rn → u p = hgF (Vw w) (Vw w).length p) (fun u : (Nat → Int32) => [(y0, .inr (2, [.int tv, .int (nI rn), .ref q1, .ref q2, .int mn, .ref q3, .ref q4, .int ct, .int il, .ref q5])), (q1, .inl (cA, (2, .inl sf))), (q2, .inl (cA, (60, .inl lf))), (q3, .inl (cA, (320, .inl rf))), (q4, .inl (cA, (320, .inl nf))), (q5, .inl (cA, (6, .inl u)))]) A) ([.ref y0, .int (nI w), .int a, .int b] : List Value).toArray s 0 0 A) (F0 m 6 ls []) := by
    intro d
    induction d with
    | zero => intro k g1 hk9 hg1 hd; exact absurd hd (Nat.not_lt_zero _)
    | succ d ih6 =>
      intro k g1 hk9 hg1 hd H locs hP hD hS ls hl
      refine lv_iload hx hb dX2_hang_6 (lv_at hl 0 rfl) ?_
      refine lv_aload_n hx hb dX2_hang_8 rfl (lv_at hl 2 rfl) ?_
      refine va_get (D := (dC, dI)) (ci := 2) (v := .int (nI rn)) (C := RX2) (T := TX2) (N := 10) hx hb hts (in_X2_hang_2) hown hK hP 0 rfl rfl 1 (by decide) (hts (.fieldLink RX2 9 "BraidWordsModel" "ropes" "I") (List.mem_of_getElem? (i := 1) rfl)) (fun _ h9 => h9) rfl dX2_hang_9 ?_
      refine lv_icmp_ge (tgt := 30) hx hb dX2_hang_12 (by decide) (fun c12 => ?_) (fun c12 => ?_)
      · have c12 : rn ≤ k := g_geT k rn (by omega) (by omega) c12
        refine lv_iconst (v := 0) hx hb dX2_hang_30 (by decide) ?_
        refine lv_istore (lv' := [(5, .int 0), (4, .int 0), (0, .ref y0), (1, .int (nI w)), (2, .int a), (3, .int b)]) hx hb dX2_hang_31 hl (by decide) rfl (fun ls hl => ?_)
        have lp33 : ∀ (d : Nat) (j : Nat) (g2 : Nat → Int32) (hj9 : j ≤ (Vw w).length) (hg2 : ∀ p, p < rn → g2 p = hgF (Vw w) j p), (Vw w).length - j < d → ∀ (H : Heap) (locs : List Loc), va_P (dC, dI) vwCl [(y0, .inr (2, [.int tv, .int (nI rn), .ref q1, .ref q2, .int mn, .ref q3, .ref q4, .int ct, .int il, .ref q5])), (q1, .inl (cA, (2, .inl sf))), (q2, .inl (cA, (60, .inl lf))), (q3, .inl (cA, (320, .inl rf))), (q4, .inl (cA, (320, .inl nf))), (q5, .inl (cA, (6, .inl g2)))] H → va_D A [(y0, .inr (2, [.int tv, .int (nI rn), .ref q1, .ref q2, .int mn, .ref q3, .ref q4, .int ct, .int il, .ref q5])), (q1, .inl (cA, (2, .inl sf))), (q2, .inl (cA, (60, .inl lf))), (q3, .inl (cA, (320, .inl rf))), (q4, .inl (cA, (320, .inl nf))), (q5, .inl (cA, (6, .inl g2)))] → va_S A s.heap H locs → ∀ ls : Array Slot, lv_has ls 9 [(5, .int (nI j)), (4, .int (hsS (Vw w) a b j)), (0, .ref y0), (1, .int (nI w)), (2, .int a), (3, .int b)] → W p l e mt_X2_hang_rm s m ([.ref y0, .int (nI w), .int a, .int b] : List Value).toArray below meth c H locs 0 0 (MQ below (gM (dC, dI) (some (.int (hsS (Vw w) a b (Vw w).length))) (fun u : (Nat → Int32) => ∀ p, p < rn → u p = hgF (Vw w) (Vw w).length p) (fun u : (Nat → Int32) => [(y0, .inr (2, [.int tv, .int (nI rn), .ref q1, .ref q2, .int mn, .ref q3, .ref q4, .int ct, .int il, .ref q5])), (q1, .inl (cA, (2, .inl sf))), (q2, .inl (cA, (60, .inl lf))), (q3, .inl (cA, (320, .inl rf))), (q4, .inl (cA, (320, .inl nf))), (q5, .inl (cA, (6, .inl u)))]) A) ([.ref y0, .int (nI w), .int a, .int b] : List Value).toArray s 0 0 A) (F0 m 33 ls []) := by
          intro d
          induction d with
          | zero => intro j g2 hj9 hg2 hd; exact absurd hd (Nat.not_lt_zero _)
          | succ d ih33 =>
            intro j g2 hj9 hg2 hd H locs hP hD hS ls hl
            refine lv_iload hx hb dX2_hang_33 (lv_at hl 0 rfl) ?_
            refine lv_aload_n hx hb dX2_hang_35 rfl (lv_at hl 2 rfl) ?_
            refine va_get (D := (dC, dI)) (ci := 2) (v := .ref q1) (C := RX2) (T := TX2) (N := 10) hx hb hts (in_X2_hang_2) hown hK hP 0 rfl rfl 2 (by decide) (hts (.fieldLink RX2 13 "BraidWordsModel" "size" "[I") (List.mem_of_getElem? (i := 3) rfl)) (fun _ h9 => h9) rfl dX2_hang_36 ?_
            refine lv_iload_n hx hb dX2_hang_39 rfl (lv_at hl 3 rfl) ?_
            refine va_iald hx hb hK hP 1 0 rfl rfl (vp_in_nI (by omega) (by decide)) dX2_hang_40 ?_
            rw [show (nI w).toNatClampNeg = w from nI_clamp (by omega)]
            rw [(hW w (by omega)).1]
            refine lv_icmp_ge (tgt := 146) hx hb dX2_hang_41 (by decide) (fun c41 => ?_) (fun c41 => ?_)
            · have c41 : ((Vw w).length) ≤ j := g_geT j ((Vw w).length) (by omega) (by omega) c41
              refine lv_iload hx hb dX2_hang_146 (lv_at hl 1 rfl) ?_
              exact g_endMi hx hb hr hlocks hP hS dX2_hang_148 g2 rfl (by rw [show j = (Vw w).length by omega]) (fun p h => by rw [hg2 p h, show j = (Vw w).length by omega])
            · have c41 : j < ((Vw w).length) := g_geF j ((Vw w).length) (by omega) (by omega) c41
              refine lv_aload_n hx hb dX2_hang_44 rfl (lv_at hl 2 rfl) ?_
              refine lv_iload_n hx hb dX2_hang_45 rfl (lv_at hl 3 rfl) ?_
              refine lv_iload hx hb dX2_hang_46 (lv_at hl 0 rfl) ?_
              refine g_RVi (As := [.int (nI w), .int (nI j)]) (rest := []) ⟨hx, hb, hml, hown, hts⟩ (mt_X2_at l dC dI cA H.size y0 q1 q2 q3 q4 q5 rn tv sf lf mn rf nf ct il g2 w j (by first | omega | (simp only [List.length_append, List.length_cons, List.length_nil, List.length_set, turnL_len]; omega)) (by first | omega | (simp only [List.length_append, List.length_cons, List.length_nil, List.length_set, turnL_len]; omega))) (cwV 2 hts gX2_hang_X2_at rfl rfl rfl hdX2_at ⟨Nat.le_of_ble_eq_true rfl, Nat.le_of_ble_eq_true rfl⟩) hP hK hD [0, 1, 2, 3, 4, 5] (by decide) rfl (va_recv hK hP (ci := 2) (q0 := 0) rfl rfl) rfl hl.1 rfl (Nat.le_of_ble_eq_true rfl) dX2_hang_48 (Nat.zero_le _) (Nat.zero_le _) ?_
              rw [(hW w (by omega)).2.2 j (by omega)]
              refine va_mabs hx hb (hml.trans hl.1.symm) hown (hts (.methodLink RX2 47 Lib.Math.abs.name) (List.mem_of_getElem? (i := 4) rfl)) (hts (.static Lib.Math.abs.name) (List.mem_of_getElem? (i := 5) rfl)) (hts (.initialized "java/lang/Math") (List.mem_of_getElem? (i := 6) rfl)) (hts (.code Lib.Math.abs.name Lib.Math.abs.code 1 (some .int)) (List.mem_of_getElem? (i := 7) rfl)) (Nat.le_of_ble_eq_true rfl) (Nat.le_of_ble_eq_true rfl) (Nat.zero_le _) (Nat.zero_le _) dX2_hang_51 ?_
              rw [mabs_eq]
              obtain ⟨u1, u2, u3⟩ := ok_h rn hrn _ (okL_at (hok w hw) (show j < (Vw w).length by omega))
              have u1 : htN (atL (Vw w) j) < rn := u1
              have u2 : 1 ≤ htN (atL (Vw w) j) := u2
              have u3 : abI (atL (Vw w) j) = nI (htN (atL (Vw w) j)) := u3
              rw [u3]
              obtain ⟨hh, hhd⟩ : ∃ z, z = htN (atL (Vw w) j) := ⟨_, rfl⟩
              rw [← hhd] at u1 u2 u3 ⊢
              refine lv_istore (lv' := [(6, .int (nI hh)), (5, .int (nI j)), (4, .int (hsS (Vw w) a b j)), (0, .ref y0), (1, .int (nI w)), (2, .int a), (3, .int b)]) hx hb dX2_hang_54 hl (by decide) rfl (fun ls hl => ?_)
              refine lv_aload_n hx hb dX2_hang_56 rfl (lv_at hl 3 rfl) ?_
              refine va_get (D := (dC, dI)) (ci := 2) (v := .ref q5) (C := RX2) (T := TX2) (N := 10) hx hb hts (in_X2_hang_2) hown hK hP 0 rfl rfl 9 (by decide) (hts (.fieldLink RX2 26 "BraidWordsModel" "hangs" "[I") (List.mem_of_getElem? (i := 2) rfl)) (fun _ h9 => h9) rfl dX2_hang_57 ?_
              refine lv_iload hx hb dX2_hang_60 (lv_at hl 0 rfl) ?_
              refine lv_iconst (v := 1) hx hb dX2_hang_62 (by decide) ?_
              refine lv_isub hx hb dX2_hang_63 ?_
              rw [show nI hh - 1 = nI (hh - 1) from nI_m1 u2]
              refine va_iald hx hb hK hP 5 0 rfl rfl (vp_in_nI (by omega) (by decide)) dX2_hang_64 ?_
              rw [show (nI (hh - 1)).toNatClampNeg = hh - 1 from nI_clamp (by omega)]
              rw [hg2 (hh - 1) (by omega)]
              refine lv_istore (lv' := [(7, .int (hgF (Vw w) j (hh - 1))), (6, .int (nI hh)), (5, .int (nI j)), (4, .int (hsS (Vw w) a b j)), (0, .ref y0), (1, .int (nI w)), (2, .int a), (3, .int b)]) hx hb dX2_hang_65 hl (by decide) rfl (fun ls hl => ?_)
              refine lv_aload_n hx hb dX2_hang_67 rfl (lv_at hl 4 rfl) ?_
              refine va_get (D := (dC, dI)) (ci := 2) (v := .ref q5) (C := RX2) (T := TX2) (N := 10) hx hb hts (in_X2_hang_2) hown hK hP 0 rfl rfl 9 (by decide) (hts (.fieldLink RX2 26 "BraidWordsModel" "hangs" "[I") (List.mem_of_getElem? (i := 2) rfl)) (fun _ h9 => h9) rfl dX2_hang_68 ?_
              refine lv_iload hx hb dX2_hang_71 (lv_at hl 1 rfl) ?_
              refine va_iald hx hb hK hP 5 0 rfl rfl (vp_in_nI (by omega) (by decide)) dX2_hang_73 ?_
              rw [show (nI hh).toNatClampNeg = hh from nI_clamp (by omega)]
              rw [hg2 hh (by omega)]
              refine lv_istore (lv' := [(8, .int (hgF (Vw w) j hh)), (7, .int (hgF (Vw w) j (hh - 1))), (6, .int (nI hh)), (5, .int (nI j)), (4, .int (hsS (Vw w) a b j)), (0, .ref y0), (1, .int (nI w)), (2, .int a), (3, .int b)]) hx hb dX2_hang_74 hl (by decide) rfl (fun ls hl => ?_)
              refine lv_iload hx hb dX2_hang_76 (lv_at hl 1 rfl) ?_
              refine lv_iload_n hx hb dX2_hang_78 rfl (lv_at hl 7 rfl) ?_
              refine lv_icmp_ne (tgt := 88) hx hb dX2_hang_79 (by decide) (fun c79 => ?_) (fun c79 => ?_)
              · refine lv_iload hx hb dX2_hang_88 (lv_at hl 1 rfl) ?_
                refine lv_iload_n hx hb dX2_hang_90 rfl (lv_at hl 8 rfl) ?_
                refine lv_icmp_ne (tgt := 120) hx hb dX2_hang_91 (by decide) (fun c91 => ?_) (fun c91 => ?_)
                · rw [show hsS (Vw w) a b j = hsS (Vw w) a b (j + 1) from by show _ = hsS (Vw w) a b j + _; rw [← hhd, if_neg (fun q => q.elim (fun z => by first | exact c79 z.1 | exact c85 z.2) (fun z => by first | exact c91 z.1 | exact c97 z.2)), Int32.add_zero]] at hl
                  refine lv_aload_n hx hb dX2_hang_120 rfl (lv_at hl 5 rfl) ?_
                  refine va_get (D := (dC, dI)) (ci := 2) (v := .ref q5) (C := RX2) (T := TX2) (N := 10) hx hb hts (in_X2_hang_2) hown hK hP 0 rfl rfl 9 (by decide) (hts (.fieldLink RX2 26 "BraidWordsModel" "hangs" "[I") (List.mem_of_getElem? (i := 2) rfl)) (fun _ h9 => h9) rfl dX2_hang_121 ?_
                  refine lv_iload hx hb dX2_hang_124 (lv_at hl 2 rfl) ?_
                  refine lv_iconst (v := 1) hx hb dX2_hang_126 (by decide) ?_
                  refine lv_isub hx hb dX2_hang_127 ?_
                  rw [show nI hh - 1 = nI (hh - 1) from nI_m1 u2]
                  refine lv_iload hx hb dX2_hang_128 (lv_at hl 0 rfl) ?_
                  refine va_iast hx hb hK hP hD hS 5 0 rfl rfl (vp_in_nI (by omega) (by decide)) dX2_hang_130 (fun H locs hP hD hS => ?_)
                  rw [show (nI (hh - 1)).toNatClampNeg = hh - 1 from nI_clamp (by omega)] at hP hD
                  have hP : va_P (dC, dI) vwCl [(y0, .inr (2, [.int tv, .int (nI rn), .ref q1, .ref q2, .int mn, .ref q3, .ref q4, .int ct, .int il, .ref q5])), (q1, .inl (cA, (2, .inl sf))), (q2, .inl (cA, (60, .inl lf))), (q3, .inl (cA, (320, .inl rf))), (q4, .inl (cA, (320, .inl nf))), (q5, .inl (cA, (6, .inl (upd g2 (hh - 1) (hgF (Vw w) j hh)))))] H := hP
                  have hD : va_D A [(y0, .inr (2, [.int tv, .int (nI rn), .ref q1, .ref q2, .int mn, .ref q3, .ref q4, .int ct, .int il, .ref q5])), (q1, .inl (cA, (2, .inl sf))), (q2, .inl (cA, (60, .inl lf))), (q3, .inl (cA, (320, .inl rf))), (q4, .inl (cA, (320, .inl nf))), (q5, .inl (cA, (6, .inl (upd g2 (hh - 1) (hgF (Vw w) j hh)))))] := hD
                  refine lv_aload_n hx hb dX2_hang_131 rfl (lv_at hl 5 rfl) ?_
                  refine va_get (D := (dC, dI)) (ci := 2) (v := .ref q5) (C := RX2) (T := TX2) (N := 10) hx hb hts (in_X2_hang_2) hown hK hP 0 rfl rfl 9 (by decide) (hts (.fieldLink RX2 26 "BraidWordsModel" "hangs" "[I") (List.mem_of_getElem? (i := 2) rfl)) (fun _ h9 => h9) rfl dX2_hang_132 ?_
                  refine lv_iload hx hb dX2_hang_135 (lv_at hl 2 rfl) ?_
                  refine lv_iload hx hb dX2_hang_137 (lv_at hl 1 rfl) ?_
                  refine va_iast hx hb hK hP hD hS 5 0 rfl rfl (vp_in_nI (by omega) (by decide)) dX2_hang_139 (fun H locs hP hD hS => ?_)
                  rw [show (nI hh).toNatClampNeg = hh from nI_clamp (by omega)] at hP hD
                  have hP : va_P (dC, dI) vwCl [(y0, .inr (2, [.int tv, .int (nI rn), .ref q1, .ref q2, .int mn, .ref q3, .ref q4, .int ct, .int il, .ref q5])), (q1, .inl (cA, (2, .inl sf))), (q2, .inl (cA, (60, .inl lf))), (q3, .inl (cA, (320, .inl rf))), (q4, .inl (cA, (320, .inl nf))), (q5, .inl (cA, (6, .inl (upd (upd g2 (hh - 1) (hgF (Vw w) j hh)) hh (hgF (Vw w) j (hh - 1))))))] H := hP
                  have hD : va_D A [(y0, .inr (2, [.int tv, .int (nI rn), .ref q1, .ref q2, .int mn, .ref q3, .ref q4, .int ct, .int il, .ref q5])), (q1, .inl (cA, (2, .inl sf))), (q2, .inl (cA, (60, .inl lf))), (q3, .inl (cA, (320, .inl rf))), (q4, .inl (cA, (320, .inl nf))), (q5, .inl (cA, (6, .inl (upd (upd g2 (hh - 1) (hgF (Vw w) j hh)) hh (hgF (Vw w) j (hh - 1))))))] := hD
                  refine lv_iinc (v := nI (j + 1)) (lv' := [(5, .int (nI (j + 1))), (8, .int (hgF (Vw w) j hh)), (7, .int (hgF (Vw w) j (hh - 1))), (6, .int (nI hh)), (4, .int (hsS (Vw w) a b (j + 1))), (0, .ref y0), (1, .int (nI w)), (2, .int a), (3, .int b)]) hx hb dX2_hang_140 hl (k := 3) rfl (g_inc _) (by decide) rfl (fun ls hl => ?_)
                  refine lv_goto (tgt := 33) hx hb dX2_hang_143 (by decide) ?_
                  exact ih33 (j + 1) (upd (upd g2 (hh - 1) (hgF (Vw w) j hh)) hh (hgF (Vw w) j (hh - 1))) (by omega) (fun p h => by rw [hgF_st hhd]; by_cases c2 : p = hh; (subst c2; rw [pk_us, if_neg (by omega), if_pos rfl]); (by_cases c1 : p = hh - 1; (subst c1; rw [pk_un c2, pk_us, if_pos rfl]); (rw [pk_un c2, pk_un c1, if_neg c1, if_neg c2]; exact hg2 p h))) (by omega) _ _ hP hD hS _ (lv_sub hl [0, 4, 5, 6, 7, 8] rfl)
                · refine lv_iload hx hb dX2_hang_94 (lv_at hl 0 rfl) ?_
                  refine lv_iload_n hx hb dX2_hang_96 rfl (lv_at hl 7 rfl) ?_
                  refine lv_icmp_ne (tgt := 120) hx hb dX2_hang_97 (by decide) (fun c97 => ?_) (fun c97 => ?_)
                  · rw [show hsS (Vw w) a b j = hsS (Vw w) a b (j + 1) from by show _ = hsS (Vw w) a b j + _; rw [← hhd, if_neg (fun q => q.elim (fun z => by first | exact c79 z.1 | exact c85 z.2) (fun z => by first | exact c91 z.1 | exact c97 z.2)), Int32.add_zero]] at hl
                    refine lv_aload_n hx hb dX2_hang_120 rfl (lv_at hl 5 rfl) ?_
                    refine va_get (D := (dC, dI)) (ci := 2) (v := .ref q5) (C := RX2) (T := TX2) (N := 10) hx hb hts (in_X2_hang_2) hown hK hP 0 rfl rfl 9 (by decide) (hts (.fieldLink RX2 26 "BraidWordsModel" "hangs" "[I") (List.mem_of_getElem? (i := 2) rfl)) (fun _ h9 => h9) rfl dX2_hang_121 ?_
                    refine lv_iload hx hb dX2_hang_124 (lv_at hl 2 rfl) ?_
                    refine lv_iconst (v := 1) hx hb dX2_hang_126 (by decide) ?_
                    refine lv_isub hx hb dX2_hang_127 ?_
                    rw [show nI hh - 1 = nI (hh - 1) from nI_m1 u2]
                    refine lv_iload hx hb dX2_hang_128 (lv_at hl 0 rfl) ?_
                    refine va_iast hx hb hK hP hD hS 5 0 rfl rfl (vp_in_nI (by omega) (by decide)) dX2_hang_130 (fun H locs hP hD hS => ?_)
                    rw [show (nI (hh - 1)).toNatClampNeg = hh - 1 from nI_clamp (by omega)] at hP hD
                    have hP : va_P (dC, dI) vwCl [(y0, .inr (2, [.int tv, .int (nI rn), .ref q1, .ref q2, .int mn, .ref q3, .ref q4, .int ct, .int il, .ref q5])), (q1, .inl (cA, (2, .inl sf))), (q2, .inl (cA, (60, .inl lf))), (q3, .inl (cA, (320, .inl rf))), (q4, .inl (cA, (320, .inl nf))), (q5, .inl (cA, (6, .inl (upd g2 (hh - 1) (hgF (Vw w) j hh)))))] H := hP
                    have hD : va_D A [(y0, .inr (2, [.int tv, .int (nI rn), .ref q1, .ref q2, .int mn, .ref q3, .ref q4, .int ct, .int il, .ref q5])), (q1, .inl (cA, (2, .inl sf))), (q2, .inl (cA, (60, .inl lf))), (q3, .inl (cA, (320, .inl rf))), (q4, .inl (cA, (320, .inl nf))), (q5, .inl (cA, (6, .inl (upd g2 (hh - 1) (hgF (Vw w) j hh)))))] := hD
                    refine lv_aload_n hx hb dX2_hang_131 rfl (lv_at hl 5 rfl) ?_
                    refine va_get (D := (dC, dI)) (ci := 2) (v := .ref q5) (C := RX2) (T := TX2) (N := 10) hx hb hts (in_X2_hang_2) hown hK hP 0 rfl rfl 9 (by decide) (hts (.fieldLink RX2 26 "BraidWordsModel" "hangs" "[I") (List.mem_of_getElem? (i := 2) rfl)) (fun _ h9 => h9) rfl dX2_hang_132 ?_
                    refine lv_iload hx hb dX2_hang_135 (lv_at hl 2 rfl) ?_
                    refine lv_iload hx hb dX2_hang_137 (lv_at hl 1 rfl) ?_
                    refine va_iast hx hb hK hP hD hS 5 0 rfl rfl (vp_in_nI (by omega) (by decide)) dX2_hang_139 (fun H locs hP hD hS => ?_)
                    rw [show (nI hh).toNatClampNeg = hh from nI_clamp (by omega)] at hP hD
                    have hP : va_P (dC, dI) vwCl [(y0, .inr (2, [.int tv, .int (nI rn), .ref q1, .ref q2, .int mn, .ref q3, .ref q4, .int ct, .int il, .ref q5])), (q1, .inl (cA, (2, .inl sf))), (q2, .inl (cA, (60, .inl lf))), (q3, .inl (cA, (320, .inl rf))), (q4, .inl (cA, (320, .inl nf))), (q5, .inl (cA, (6, .inl (upd (upd g2 (hh - 1) (hgF (Vw w) j hh)) hh (hgF (Vw w) j (hh - 1))))))] H := hP
                    have hD : va_D A [(y0, .inr (2, [.int tv, .int (nI rn), .ref q1, .ref q2, .int mn, .ref q3, .ref q4, .int ct, .int il, .ref q5])), (q1, .inl (cA, (2, .inl sf))), (q2, .inl (cA, (60, .inl lf))), (q3, .inl (cA, (320, .inl rf))), (q4, .inl (cA, (320, .inl nf))), (q5, .inl (cA, (6, .inl (upd (upd g2 (hh - 1) (hgF (Vw w) j hh)) hh (hgF (Vw w) j (hh - 1))))))] := hD
                    refine lv_iinc (v := nI (j + 1)) (lv' := [(5, .int (nI (j + 1))), (8, .int (hgF (Vw w) j hh)), (7, .int (hgF (Vw w) j (hh - 1))), (6, .int (nI hh)), (4, .int (hsS (Vw w) a b (j + 1))), (0, .ref y0), (1, .int (nI w)), (2, .int a), (3, .int b)]) hx hb dX2_hang_140 hl (k := 3) rfl (g_inc _) (by decide) rfl (fun ls hl => ?_)
                    refine lv_goto (tgt := 33) hx hb dX2_hang_143 (by decide) ?_
                    exact ih33 (j + 1) (upd (upd g2 (hh - 1) (hgF (Vw w) j hh)) hh (hgF (Vw w) j (hh - 1))) (by omega) (fun p h => by rw [hgF_st hhd]; by_cases c2 : p = hh; (subst c2; rw [pk_us, if_neg (by omega), if_pos rfl]); (by_cases c1 : p = hh - 1; (subst c1; rw [pk_un c2, pk_us, if_pos rfl]); (rw [pk_un c2, pk_un c1, if_neg c1, if_neg c2]; exact hg2 p h))) (by omega) _ _ hP hD hS _ (lv_sub hl [0, 4, 5, 6, 7, 8] rfl)
                  · refine lv_iload hx hb dX2_hang_100 (lv_at hl 4 rfl) ?_
                    refine lv_aload_n hx hb dX2_hang_102 rfl (lv_at hl 5 rfl) ?_
                    refine lv_iload_n hx hb dX2_hang_103 rfl (lv_at hl 6 rfl) ?_
                    refine lv_iload hx hb dX2_hang_104 (lv_at hl 3 rfl) ?_
                    refine g_RVi (As := [.int (nI w), .int (nI j)]) (rest := [.int (hsS (Vw w) a b j)]) ⟨hx, hb, hml, hown, hts⟩ (mt_X2_at l dC dI cA H.size y0 q1 q2 q3 q4 q5 rn tv sf lf mn rf nf ct il g2 w j (by first | omega | (simp only [List.length_append, List.length_cons, List.length_nil, List.length_set, turnL_len]; omega)) (by first | omega | (simp only [List.length_append, List.length_cons, List.length_nil, List.length_set, turnL_len]; omega))) (cwV 2 hts gX2_hang_X2_at rfl rfl rfl hdX2_at ⟨Nat.le_of_ble_eq_true rfl, Nat.le_of_ble_eq_true rfl⟩) hP hK hD [0, 1, 2, 3, 4, 5] (by decide) rfl (va_recv hK hP (ci := 2) (q0 := 0) rfl rfl) rfl hl.1 rfl (Nat.le_of_ble_eq_true rfl) dX2_hang_106 (Nat.zero_le _) (Nat.zero_le _) ?_
                    rw [(hW w (by omega)).2.2 j (by omega)]
                    refine lv_if_le (tgt := 116) hx hb dX2_hang_109 (by decide) (fun c109 => ?_) (fun c109 => ?_)
                    · refine lv_iconst (v := (-1)) hx hb dX2_hang_116 (by decide) ?_
                      refine lv_topi (fun tp_1 etp_1 => ?_)
                      obtain rfl : tp_1 = sgI (atL (Vw w) j) := etp_1.trans ((ok_sgn rn hrn _ (okL_at (hok w hw) (show j < (Vw w).length by omega)) c109).symm)
                      refine lv_iadd hx hb dX2_hang_117 ?_
                      refine lv_istore (lv' := [(4, .int ((hsS (Vw w) a b j) + (sgI (atL (Vw w) j)))), (8, .int (hgF (Vw w) j hh)), (7, .int (hgF (Vw w) j (hh - 1))), (6, .int (nI hh)), (5, .int (nI j)), (0, .ref y0), (1, .int (nI w)), (2, .int a), (3, .int b)]) hx hb dX2_hang_118 hl (by decide) rfl (fun ls hl => ?_)
                      rw [show hsS (Vw w) a b j + sgI (atL (Vw w) j) = hsS (Vw w) a b (j + 1) from by show _ = hsS (Vw w) a b j + _; rw [← hhd, if_pos (by first | exact Or.inl ⟨c79, c85⟩ | exact Or.inr ⟨c91, c97⟩)]] at hl
                      refine lv_aload_n hx hb dX2_hang_120 rfl (lv_at hl 5 rfl) ?_
                      refine va_get (D := (dC, dI)) (ci := 2) (v := .ref q5) (C := RX2) (T := TX2) (N := 10) hx hb hts (in_X2_hang_2) hown hK hP 0 rfl rfl 9 (by decide) (hts (.fieldLink RX2 26 "BraidWordsModel" "hangs" "[I") (List.mem_of_getElem? (i := 2) rfl)) (fun _ h9 => h9) rfl dX2_hang_121 ?_
                      refine lv_iload hx hb dX2_hang_124 (lv_at hl 3 rfl) ?_
                      refine lv_iconst (v := 1) hx hb dX2_hang_126 (by decide) ?_
                      refine lv_isub hx hb dX2_hang_127 ?_
                      rw [show nI hh - 1 = nI (hh - 1) from nI_m1 u2]
                      refine lv_iload hx hb dX2_hang_128 (lv_at hl 1 rfl) ?_
                      refine va_iast hx hb hK hP hD hS 5 0 rfl rfl (vp_in_nI (by omega) (by decide)) dX2_hang_130 (fun H locs hP hD hS => ?_)
                      rw [show (nI (hh - 1)).toNatClampNeg = hh - 1 from nI_clamp (by omega)] at hP hD
                      have hP : va_P (dC, dI) vwCl [(y0, .inr (2, [.int tv, .int (nI rn), .ref q1, .ref q2, .int mn, .ref q3, .ref q4, .int ct, .int il, .ref q5])), (q1, .inl (cA, (2, .inl sf))), (q2, .inl (cA, (60, .inl lf))), (q3, .inl (cA, (320, .inl rf))), (q4, .inl (cA, (320, .inl nf))), (q5, .inl (cA, (6, .inl (upd g2 (hh - 1) (hgF (Vw w) j hh)))))] H := hP
                      have hD : va_D A [(y0, .inr (2, [.int tv, .int (nI rn), .ref q1, .ref q2, .int mn, .ref q3, .ref q4, .int ct, .int il, .ref q5])), (q1, .inl (cA, (2, .inl sf))), (q2, .inl (cA, (60, .inl lf))), (q3, .inl (cA, (320, .inl rf))), (q4, .inl (cA, (320, .inl nf))), (q5, .inl (cA, (6, .inl (upd g2 (hh - 1) (hgF (Vw w) j hh)))))] := hD
                      refine lv_aload_n hx hb dX2_hang_131 rfl (lv_at hl 5 rfl) ?_
                      refine va_get (D := (dC, dI)) (ci := 2) (v := .ref q5) (C := RX2) (T := TX2) (N := 10) hx hb hts (in_X2_hang_2) hown hK hP 0 rfl rfl 9 (by decide) (hts (.fieldLink RX2 26 "BraidWordsModel" "hangs" "[I") (List.mem_of_getElem? (i := 2) rfl)) (fun _ h9 => h9) rfl dX2_hang_132 ?_
                      refine lv_iload hx hb dX2_hang_135 (lv_at hl 3 rfl) ?_
                      refine lv_iload hx hb dX2_hang_137 (lv_at hl 2 rfl) ?_
                      refine va_iast hx hb hK hP hD hS 5 0 rfl rfl (vp_in_nI (by omega) (by decide)) dX2_hang_139 (fun H locs hP hD hS => ?_)
                      rw [show (nI hh).toNatClampNeg = hh from nI_clamp (by omega)] at hP hD
                      have hP : va_P (dC, dI) vwCl [(y0, .inr (2, [.int tv, .int (nI rn), .ref q1, .ref q2, .int mn, .ref q3, .ref q4, .int ct, .int il, .ref q5])), (q1, .inl (cA, (2, .inl sf))), (q2, .inl (cA, (60, .inl lf))), (q3, .inl (cA, (320, .inl rf))), (q4, .inl (cA, (320, .inl nf))), (q5, .inl (cA, (6, .inl (upd (upd g2 (hh - 1) (hgF (Vw w) j hh)) hh (hgF (Vw w) j (hh - 1))))))] H := hP
                      have hD : va_D A [(y0, .inr (2, [.int tv, .int (nI rn), .ref q1, .ref q2, .int mn, .ref q3, .ref q4, .int ct, .int il, .ref q5])), (q1, .inl (cA, (2, .inl sf))), (q2, .inl (cA, (60, .inl lf))), (q3, .inl (cA, (320, .inl rf))), (q4, .inl (cA, (320, .inl nf))), (q5, .inl (cA, (6, .inl (upd (upd g2 (hh - 1) (hgF (Vw w) j hh)) hh (hgF (Vw w) j (hh - 1))))))] := hD
                      refine lv_iinc (v := nI (j + 1)) (lv' := [(5, .int (nI (j + 1))), (4, .int (hsS (Vw w) a b (j + 1))), (8, .int (hgF (Vw w) j hh)), (7, .int (hgF (Vw w) j (hh - 1))), (6, .int (nI hh)), (0, .ref y0), (1, .int (nI w)), (2, .int a), (3, .int b)]) hx hb dX2_hang_140 hl (k := 4) rfl (g_inc _) (by decide) rfl (fun ls hl => ?_)
                      refine lv_goto (tgt := 33) hx hb dX2_hang_143 (by decide) ?_
                      exact ih33 (j + 1) (upd (upd g2 (hh - 1) (hgF (Vw w) j hh)) hh (hgF (Vw w) j (hh - 1))) (by omega) (fun p h => by rw [hgF_st hhd]; by_cases c2 : p = hh; (subst c2; rw [pk_us, if_neg (by omega), if_pos rfl]); (by_cases c1 : p = hh - 1; (subst c1; rw [pk_un c2, pk_us, if_pos rfl]); (rw [pk_un c2, pk_un c1, if_neg c1, if_neg c2]; exact hg2 p h))) (by omega) _ _ hP hD hS _ (lv_sub hl [0, 1, 5, 6, 7, 8] rfl)
                    · refine lv_iconst (v := 1) hx hb dX2_hang_112 (by decide) ?_
                      refine lv_goto (tgt := 117) hx hb dX2_hang_113 (by decide) ?_
                      refine lv_topi (fun tp_2 etp_2 => ?_)
                      obtain rfl : tp_2 = sgI (atL (Vw w) j) := etp_2.trans ((ok_sgp rn hrn _ (okL_at (hok w hw) (show j < (Vw w).length by omega)) c109).symm)
                      refine lv_iadd hx hb dX2_hang_117 ?_
                      refine lv_istore (lv' := [(4, .int ((hsS (Vw w) a b j) + (sgI (atL (Vw w) j)))), (8, .int (hgF (Vw w) j hh)), (7, .int (hgF (Vw w) j (hh - 1))), (6, .int (nI hh)), (5, .int (nI j)), (0, .ref y0), (1, .int (nI w)), (2, .int a), (3, .int b)]) hx hb dX2_hang_118 hl (by decide) rfl (fun ls hl => ?_)
                      rw [show hsS (Vw w) a b j + sgI (atL (Vw w) j) = hsS (Vw w) a b (j + 1) from by show _ = hsS (Vw w) a b j + _; rw [← hhd, if_pos (by first | exact Or.inl ⟨c79, c85⟩ | exact Or.inr ⟨c91, c97⟩)]] at hl
                      refine lv_aload_n hx hb dX2_hang_120 rfl (lv_at hl 5 rfl) ?_
                      refine va_get (D := (dC, dI)) (ci := 2) (v := .ref q5) (C := RX2) (T := TX2) (N := 10) hx hb hts (in_X2_hang_2) hown hK hP 0 rfl rfl 9 (by decide) (hts (.fieldLink RX2 26 "BraidWordsModel" "hangs" "[I") (List.mem_of_getElem? (i := 2) rfl)) (fun _ h9 => h9) rfl dX2_hang_121 ?_
                      refine lv_iload hx hb dX2_hang_124 (lv_at hl 3 rfl) ?_
                      refine lv_iconst (v := 1) hx hb dX2_hang_126 (by decide) ?_
                      refine lv_isub hx hb dX2_hang_127 ?_
                      rw [show nI hh - 1 = nI (hh - 1) from nI_m1 u2]
                      refine lv_iload hx hb dX2_hang_128 (lv_at hl 1 rfl) ?_
                      refine va_iast hx hb hK hP hD hS 5 0 rfl rfl (vp_in_nI (by omega) (by decide)) dX2_hang_130 (fun H locs hP hD hS => ?_)
                      rw [show (nI (hh - 1)).toNatClampNeg = hh - 1 from nI_clamp (by omega)] at hP hD
                      have hP : va_P (dC, dI) vwCl [(y0, .inr (2, [.int tv, .int (nI rn), .ref q1, .ref q2, .int mn, .ref q3, .ref q4, .int ct, .int il, .ref q5])), (q1, .inl (cA, (2, .inl sf))), (q2, .inl (cA, (60, .inl lf))), (q3, .inl (cA, (320, .inl rf))), (q4, .inl (cA, (320, .inl nf))), (q5, .inl (cA, (6, .inl (upd g2 (hh - 1) (hgF (Vw w) j hh)))))] H := hP
                      have hD : va_D A [(y0, .inr (2, [.int tv, .int (nI rn), .ref q1, .ref q2, .int mn, .ref q3, .ref q4, .int ct, .int il, .ref q5])), (q1, .inl (cA, (2, .inl sf))), (q2, .inl (cA, (60, .inl lf))), (q3, .inl (cA, (320, .inl rf))), (q4, .inl (cA, (320, .inl nf))), (q5, .inl (cA, (6, .inl (upd g2 (hh - 1) (hgF (Vw w) j hh)))))] := hD
                      refine lv_aload_n hx hb dX2_hang_131 rfl (lv_at hl 5 rfl) ?_
                      refine va_get (D := (dC, dI)) (ci := 2) (v := .ref q5) (C := RX2) (T := TX2) (N := 10) hx hb hts (in_X2_hang_2) hown hK hP 0 rfl rfl 9 (by decide) (hts (.fieldLink RX2 26 "BraidWordsModel" "hangs" "[I") (List.mem_of_getElem? (i := 2) rfl)) (fun _ h9 => h9) rfl dX2_hang_132 ?_
                      refine lv_iload hx hb dX2_hang_135 (lv_at hl 3 rfl) ?_
                      refine lv_iload hx hb dX2_hang_137 (lv_at hl 2 rfl) ?_
                      refine va_iast hx hb hK hP hD hS 5 0 rfl rfl (vp_in_nI (by omega) (by decide)) dX2_hang_139 (fun H locs hP hD hS => ?_)
                      rw [show (nI hh).toNatClampNeg = hh from nI_clamp (by omega)] at hP hD
                      have hP : va_P (dC, dI) vwCl [(y0, .inr (2, [.int tv, .int (nI rn), .ref q1, .ref q2, .int mn, .ref q3, .ref q4, .int ct, .int il, .ref q5])), (q1, .inl (cA, (2, .inl sf))), (q2, .inl (cA, (60, .inl lf))), (q3, .inl (cA, (320, .inl rf))), (q4, .inl (cA, (320, .inl nf))), (q5, .inl (cA, (6, .inl (upd (upd g2 (hh - 1) (hgF (Vw w) j hh)) hh (hgF (Vw w) j (hh - 1))))))] H := hP
                      have hD : va_D A [(y0, .inr (2, [.int tv, .int (nI rn), .ref q1, .ref q2, .int mn, .ref q3, .ref q4, .int ct, .int il, .ref q5])), (q1, .inl (cA, (2, .inl sf))), (q2, .inl (cA, (60, .inl lf))), (q3, .inl (cA, (320, .inl rf))), (q4, .inl (cA, (320, .inl nf))), (q5, .inl (cA, (6, .inl (upd (upd g2 (hh - 1) (hgF (Vw w) j hh)) hh (hgF (Vw w) j (hh - 1))))))] := hD
                      refine lv_iinc (v := nI (j + 1)) (lv' := [(5, .int (nI (j + 1))), (4, .int (hsS (Vw w) a b (j + 1))), (8, .int (hgF (Vw w) j hh)), (7, .int (hgF (Vw w) j (hh - 1))), (6, .int (nI hh)), (0, .ref y0), (1, .int (nI w)), (2, .int a), (3, .int b)]) hx hb dX2_hang_140 hl (k := 4) rfl (g_inc _) (by decide) rfl (fun ls hl => ?_)
                      refine lv_goto (tgt := 33) hx hb dX2_hang_143 (by decide) ?_
                      exact ih33 (j + 1) (upd (upd g2 (hh - 1) (hgF (Vw w) j hh)) hh (hgF (Vw w) j (hh - 1))) (by omega) (fun p h => by rw [hgF_st hhd]; by_cases c2 : p = hh; (subst c2; rw [pk_us, if_neg (by omega), if_pos rfl]); (by_cases c1 : p = hh - 1; (subst c1; rw [pk_un c2, pk_us, if_pos rfl]); (rw [pk_un c2, pk_un c1, if_neg c1, if_neg c2]; exact hg2 p h))) (by omega) _ _ hP hD hS _ (lv_sub hl [0, 1, 5, 6, 7, 8] rfl)
              · refine lv_iload hx hb dX2_hang_82 (lv_at hl 0 rfl) ?_
                refine lv_iload_n hx hb dX2_hang_84 rfl (lv_at hl 8 rfl) ?_
                refine lv_icmp_eq (tgt := 100) hx hb dX2_hang_85 (by decide) (fun c85 => ?_) (fun c85 => ?_)
                · refine lv_iload hx hb dX2_hang_100 (lv_at hl 4 rfl) ?_
                  refine lv_aload_n hx hb dX2_hang_102 rfl (lv_at hl 5 rfl) ?_
                  refine lv_iload_n hx hb dX2_hang_103 rfl (lv_at hl 6 rfl) ?_
                  refine lv_iload hx hb dX2_hang_104 (lv_at hl 3 rfl) ?_
                  refine g_RVi (As := [.int (nI w), .int (nI j)]) (rest := [.int (hsS (Vw w) a b j)]) ⟨hx, hb, hml, hown, hts⟩ (mt_X2_at l dC dI cA H.size y0 q1 q2 q3 q4 q5 rn tv sf lf mn rf nf ct il g2 w j (by first | omega | (simp only [List.length_append, List.length_cons, List.length_nil, List.length_set, turnL_len]; omega)) (by first | omega | (simp only [List.length_append, List.length_cons, List.length_nil, List.length_set, turnL_len]; omega))) (cwV 2 hts gX2_hang_X2_at rfl rfl rfl hdX2_at ⟨Nat.le_of_ble_eq_true rfl, Nat.le_of_ble_eq_true rfl⟩) hP hK hD [0, 1, 2, 3, 4, 5] (by decide) rfl (va_recv hK hP (ci := 2) (q0 := 0) rfl rfl) rfl hl.1 rfl (Nat.le_of_ble_eq_true rfl) dX2_hang_106 (Nat.zero_le _) (Nat.zero_le _) ?_
                  rw [(hW w (by omega)).2.2 j (by omega)]
                  refine lv_if_le (tgt := 116) hx hb dX2_hang_109 (by decide) (fun c109 => ?_) (fun c109 => ?_)
                  · refine lv_iconst (v := (-1)) hx hb dX2_hang_116 (by decide) ?_
                    refine lv_topi (fun tp_3 etp_3 => ?_)
                    obtain rfl : tp_3 = sgI (atL (Vw w) j) := etp_3.trans ((ok_sgn rn hrn _ (okL_at (hok w hw) (show j < (Vw w).length by omega)) c109).symm)
                    refine lv_iadd hx hb dX2_hang_117 ?_
                    refine lv_istore (lv' := [(4, .int ((hsS (Vw w) a b j) + (sgI (atL (Vw w) j)))), (8, .int (hgF (Vw w) j hh)), (7, .int (hgF (Vw w) j (hh - 1))), (6, .int (nI hh)), (5, .int (nI j)), (0, .ref y0), (1, .int (nI w)), (2, .int a), (3, .int b)]) hx hb dX2_hang_118 hl (by decide) rfl (fun ls hl => ?_)
                    rw [show hsS (Vw w) a b j + sgI (atL (Vw w) j) = hsS (Vw w) a b (j + 1) from by show _ = hsS (Vw w) a b j + _; rw [← hhd, if_pos (by first | exact Or.inl ⟨c79, c85⟩ | exact Or.inr ⟨c91, c97⟩)]] at hl
                    refine lv_aload_n hx hb dX2_hang_120 rfl (lv_at hl 5 rfl) ?_
                    refine va_get (D := (dC, dI)) (ci := 2) (v := .ref q5) (C := RX2) (T := TX2) (N := 10) hx hb hts (in_X2_hang_2) hown hK hP 0 rfl rfl 9 (by decide) (hts (.fieldLink RX2 26 "BraidWordsModel" "hangs" "[I") (List.mem_of_getElem? (i := 2) rfl)) (fun _ h9 => h9) rfl dX2_hang_121 ?_
                    refine lv_iload hx hb dX2_hang_124 (lv_at hl 3 rfl) ?_
                    refine lv_iconst (v := 1) hx hb dX2_hang_126 (by decide) ?_
                    refine lv_isub hx hb dX2_hang_127 ?_
                    rw [show nI hh - 1 = nI (hh - 1) from nI_m1 u2]
                    refine lv_iload hx hb dX2_hang_128 (lv_at hl 1 rfl) ?_
                    refine va_iast hx hb hK hP hD hS 5 0 rfl rfl (vp_in_nI (by omega) (by decide)) dX2_hang_130 (fun H locs hP hD hS => ?_)
                    rw [show (nI (hh - 1)).toNatClampNeg = hh - 1 from nI_clamp (by omega)] at hP hD
                    have hP : va_P (dC, dI) vwCl [(y0, .inr (2, [.int tv, .int (nI rn), .ref q1, .ref q2, .int mn, .ref q3, .ref q4, .int ct, .int il, .ref q5])), (q1, .inl (cA, (2, .inl sf))), (q2, .inl (cA, (60, .inl lf))), (q3, .inl (cA, (320, .inl rf))), (q4, .inl (cA, (320, .inl nf))), (q5, .inl (cA, (6, .inl (upd g2 (hh - 1) (hgF (Vw w) j hh)))))] H := hP
                    have hD : va_D A [(y0, .inr (2, [.int tv, .int (nI rn), .ref q1, .ref q2, .int mn, .ref q3, .ref q4, .int ct, .int il, .ref q5])), (q1, .inl (cA, (2, .inl sf))), (q2, .inl (cA, (60, .inl lf))), (q3, .inl (cA, (320, .inl rf))), (q4, .inl (cA, (320, .inl nf))), (q5, .inl (cA, (6, .inl (upd g2 (hh - 1) (hgF (Vw w) j hh)))))] := hD
                    refine lv_aload_n hx hb dX2_hang_131 rfl (lv_at hl 5 rfl) ?_
                    refine va_get (D := (dC, dI)) (ci := 2) (v := .ref q5) (C := RX2) (T := TX2) (N := 10) hx hb hts (in_X2_hang_2) hown hK hP 0 rfl rfl 9 (by decide) (hts (.fieldLink RX2 26 "BraidWordsModel" "hangs" "[I") (List.mem_of_getElem? (i := 2) rfl)) (fun _ h9 => h9) rfl dX2_hang_132 ?_
                    refine lv_iload hx hb dX2_hang_135 (lv_at hl 3 rfl) ?_
                    refine lv_iload hx hb dX2_hang_137 (lv_at hl 2 rfl) ?_
                    refine va_iast hx hb hK hP hD hS 5 0 rfl rfl (vp_in_nI (by omega) (by decide)) dX2_hang_139 (fun H locs hP hD hS => ?_)
                    rw [show (nI hh).toNatClampNeg = hh from nI_clamp (by omega)] at hP hD
                    have hP : va_P (dC, dI) vwCl [(y0, .inr (2, [.int tv, .int (nI rn), .ref q1, .ref q2, .int mn, .ref q3, .ref q4, .int ct, .int il, .ref q5])), (q1, .inl (cA, (2, .inl sf))), (q2, .inl (cA, (60, .inl lf))), (q3, .inl (cA, (320, .inl rf))), (q4, .inl (cA, (320, .inl nf))), (q5, .inl (cA, (6, .inl (upd (upd g2 (hh - 1) (hgF (Vw w) j hh)) hh (hgF (Vw w) j (hh - 1))))))] H := hP
                    have hD : va_D A [(y0, .inr (2, [.int tv, .int (nI rn), .ref q1, .ref q2, .int mn, .ref q3, .ref q4, .int ct, .int il, .ref q5])), (q1, .inl (cA, (2, .inl sf))), (q2, .inl (cA, (60, .inl lf))), (q3, .inl (cA, (320, .inl rf))), (q4, .inl (cA, (320, .inl nf))), (q5, .inl (cA, (6, .inl (upd (upd g2 (hh - 1) (hgF (Vw w) j hh)) hh (hgF (Vw w) j (hh - 1))))))] := hD
                    refine lv_iinc (v := nI (j + 1)) (lv' := [(5, .int (nI (j + 1))), (4, .int (hsS (Vw w) a b (j + 1))), (8, .int (hgF (Vw w) j hh)), (7, .int (hgF (Vw w) j (hh - 1))), (6, .int (nI hh)), (0, .ref y0), (1, .int (nI w)), (2, .int a), (3, .int b)]) hx hb dX2_hang_140 hl (k := 4) rfl (g_inc _) (by decide) rfl (fun ls hl => ?_)
                    refine lv_goto (tgt := 33) hx hb dX2_hang_143 (by decide) ?_
                    exact ih33 (j + 1) (upd (upd g2 (hh - 1) (hgF (Vw w) j hh)) hh (hgF (Vw w) j (hh - 1))) (by omega) (fun p h => by rw [hgF_st hhd]; by_cases c2 : p = hh; (subst c2; rw [pk_us, if_neg (by omega), if_pos rfl]); (by_cases c1 : p = hh - 1; (subst c1; rw [pk_un c2, pk_us, if_pos rfl]); (rw [pk_un c2, pk_un c1, if_neg c1, if_neg c2]; exact hg2 p h))) (by omega) _ _ hP hD hS _ (lv_sub hl [0, 1, 5, 6, 7, 8] rfl)
                  · refine lv_iconst (v := 1) hx hb dX2_hang_112 (by decide) ?_
                    refine lv_goto (tgt := 117) hx hb dX2_hang_113 (by decide) ?_
                    refine lv_topi (fun tp_4 etp_4 => ?_)
                    obtain rfl : tp_4 = sgI (atL (Vw w) j) := etp_4.trans ((ok_sgp rn hrn _ (okL_at (hok w hw) (show j < (Vw w).length by omega)) c109).symm)
                    refine lv_iadd hx hb dX2_hang_117 ?_
                    refine lv_istore (lv' := [(4, .int ((hsS (Vw w) a b j) + (sgI (atL (Vw w) j)))), (8, .int (hgF (Vw w) j hh)), (7, .int (hgF (Vw w) j (hh - 1))), (6, .int (nI hh)), (5, .int (nI j)), (0, .ref y0), (1, .int (nI w)), (2, .int a), (3, .int b)]) hx hb dX2_hang_118 hl (by decide) rfl (fun ls hl => ?_)
                    rw [show hsS (Vw w) a b j + sgI (atL (Vw w) j) = hsS (Vw w) a b (j + 1) from by show _ = hsS (Vw w) a b j + _; rw [← hhd, if_pos (by first | exact Or.inl ⟨c79, c85⟩ | exact Or.inr ⟨c91, c97⟩)]] at hl
                    refine lv_aload_n hx hb dX2_hang_120 rfl (lv_at hl 5 rfl) ?_
                    refine va_get (D := (dC, dI)) (ci := 2) (v := .ref q5) (C := RX2) (T := TX2) (N := 10) hx hb hts (in_X2_hang_2) hown hK hP 0 rfl rfl 9 (by decide) (hts (.fieldLink RX2 26 "BraidWordsModel" "hangs" "[I") (List.mem_of_getElem? (i := 2) rfl)) (fun _ h9 => h9) rfl dX2_hang_121 ?_
                    refine lv_iload hx hb dX2_hang_124 (lv_at hl 3 rfl) ?_
                    refine lv_iconst (v := 1) hx hb dX2_hang_126 (by decide) ?_
                    refine lv_isub hx hb dX2_hang_127 ?_
                    rw [show nI hh - 1 = nI (hh - 1) from nI_m1 u2]
                    refine lv_iload hx hb dX2_hang_128 (lv_at hl 1 rfl) ?_
                    refine va_iast hx hb hK hP hD hS 5 0 rfl rfl (vp_in_nI (by omega) (by decide)) dX2_hang_130 (fun H locs hP hD hS => ?_)
                    rw [show (nI (hh - 1)).toNatClampNeg = hh - 1 from nI_clamp (by omega)] at hP hD
                    have hP : va_P (dC, dI) vwCl [(y0, .inr (2, [.int tv, .int (nI rn), .ref q1, .ref q2, .int mn, .ref q3, .ref q4, .int ct, .int il, .ref q5])), (q1, .inl (cA, (2, .inl sf))), (q2, .inl (cA, (60, .inl lf))), (q3, .inl (cA, (320, .inl rf))), (q4, .inl (cA, (320, .inl nf))), (q5, .inl (cA, (6, .inl (upd g2 (hh - 1) (hgF (Vw w) j hh)))))] H := hP
                    have hD : va_D A [(y0, .inr (2, [.int tv, .int (nI rn), .ref q1, .ref q2, .int mn, .ref q3, .ref q4, .int ct, .int il, .ref q5])), (q1, .inl (cA, (2, .inl sf))), (q2, .inl (cA, (60, .inl lf))), (q3, .inl (cA, (320, .inl rf))), (q4, .inl (cA, (320, .inl nf))), (q5, .inl (cA, (6, .inl (upd g2 (hh - 1) (hgF (Vw w) j hh)))))] := hD
                    refine lv_aload_n hx hb dX2_hang_131 rfl (lv_at hl 5 rfl) ?_
                    refine va_get (D := (dC, dI)) (ci := 2) (v := .ref q5) (C := RX2) (T := TX2) (N := 10) hx hb hts (in_X2_hang_2) hown hK hP 0 rfl rfl 9 (by decide) (hts (.fieldLink RX2 26 "BraidWordsModel" "hangs" "[I") (List.mem_of_getElem? (i := 2) rfl)) (fun _ h9 => h9) rfl dX2_hang_132 ?_
                    refine lv_iload hx hb dX2_hang_135 (lv_at hl 3 rfl) ?_
                    refine lv_iload hx hb dX2_hang_137 (lv_at hl 2 rfl) ?_
                    refine va_iast hx hb hK hP hD hS 5 0 rfl rfl (vp_in_nI (by omega) (by decide)) dX2_hang_139 (fun H locs hP hD hS => ?_)
                    rw [show (nI hh).toNatClampNeg = hh from nI_clamp (by omega)] at hP hD
                    have hP : va_P (dC, dI) vwCl [(y0, .inr (2, [.int tv, .int (nI rn), .ref q1, .ref q2, .int mn, .ref q3, .ref q4, .int ct, .int il, .ref q5])), (q1, .inl (cA, (2, .inl sf))), (q2, .inl (cA, (60, .inl lf))), (q3, .inl (cA, (320, .inl rf))), (q4, .inl (cA, (320, .inl nf))), (q5, .inl (cA, (6, .inl (upd (upd g2 (hh - 1) (hgF (Vw w) j hh)) hh (hgF (Vw w) j (hh - 1))))))] H := hP
                    have hD : va_D A [(y0, .inr (2, [.int tv, .int (nI rn), .ref q1, .ref q2, .int mn, .ref q3, .ref q4, .int ct, .int il, .ref q5])), (q1, .inl (cA, (2, .inl sf))), (q2, .inl (cA, (60, .inl lf))), (q3, .inl (cA, (320, .inl rf))), (q4, .inl (cA, (320, .inl nf))), (q5, .inl (cA, (6, .inl (upd (upd g2 (hh - 1) (hgF (Vw w) j hh)) hh (hgF (Vw w) j (hh - 1))))))] := hD
                    refine lv_iinc (v := nI (j + 1)) (lv' := [(5, .int (nI (j + 1))), (4, .int (hsS (Vw w) a b (j + 1))), (8, .int (hgF (Vw w) j hh)), (7, .int (hgF (Vw w) j (hh - 1))), (6, .int (nI hh)), (0, .ref y0), (1, .int (nI w)), (2, .int a), (3, .int b)]) hx hb dX2_hang_140 hl (k := 4) rfl (g_inc _) (by decide) rfl (fun ls hl => ?_)
                    refine lv_goto (tgt := 33) hx hb dX2_hang_143 (by decide) ?_
                    exact ih33 (j + 1) (upd (upd g2 (hh - 1) (hgF (Vw w) j hh)) hh (hgF (Vw w) j (hh - 1))) (by omega) (fun p h => by rw [hgF_st hhd]; by_cases c2 : p = hh; (subst c2; rw [pk_us, if_neg (by omega), if_pos rfl]); (by_cases c1 : p = hh - 1; (subst c1; rw [pk_un c2, pk_us, if_pos rfl]); (rw [pk_un c2, pk_un c1, if_neg c1, if_neg c2]; exact hg2 p h))) (by omega) _ _ hP hD hS _ (lv_sub hl [0, 1, 5, 6, 7, 8] rfl)
                · refine lv_iload hx hb dX2_hang_88 (lv_at hl 1 rfl) ?_
                  refine lv_iload_n hx hb dX2_hang_90 rfl (lv_at hl 8 rfl) ?_
                  refine lv_icmp_ne (tgt := 120) hx hb dX2_hang_91 (by decide) (fun c91 => ?_) (fun c91 => ?_)
                  · rw [show hsS (Vw w) a b j = hsS (Vw w) a b (j + 1) from by show _ = hsS (Vw w) a b j + _; rw [← hhd, if_neg (fun q => q.elim (fun z => by first | exact c79 z.1 | exact c85 z.2) (fun z => by first | exact c91 z.1 | exact c97 z.2)), Int32.add_zero]] at hl
                    refine lv_aload_n hx hb dX2_hang_120 rfl (lv_at hl 5 rfl) ?_
                    refine va_get (D := (dC, dI)) (ci := 2) (v := .ref q5) (C := RX2) (T := TX2) (N := 10) hx hb hts (in_X2_hang_2) hown hK hP 0 rfl rfl 9 (by decide) (hts (.fieldLink RX2 26 "BraidWordsModel" "hangs" "[I") (List.mem_of_getElem? (i := 2) rfl)) (fun _ h9 => h9) rfl dX2_hang_121 ?_
                    refine lv_iload hx hb dX2_hang_124 (lv_at hl 2 rfl) ?_
                    refine lv_iconst (v := 1) hx hb dX2_hang_126 (by decide) ?_
                    refine lv_isub hx hb dX2_hang_127 ?_
                    rw [show nI hh - 1 = nI (hh - 1) from nI_m1 u2]
                    refine lv_iload hx hb dX2_hang_128 (lv_at hl 0 rfl) ?_
                    refine va_iast hx hb hK hP hD hS 5 0 rfl rfl (vp_in_nI (by omega) (by decide)) dX2_hang_130 (fun H locs hP hD hS => ?_)
                    rw [show (nI (hh - 1)).toNatClampNeg = hh - 1 from nI_clamp (by omega)] at hP hD
                    have hP : va_P (dC, dI) vwCl [(y0, .inr (2, [.int tv, .int (nI rn), .ref q1, .ref q2, .int mn, .ref q3, .ref q4, .int ct, .int il, .ref q5])), (q1, .inl (cA, (2, .inl sf))), (q2, .inl (cA, (60, .inl lf))), (q3, .inl (cA, (320, .inl rf))), (q4, .inl (cA, (320, .inl nf))), (q5, .inl (cA, (6, .inl (upd g2 (hh - 1) (hgF (Vw w) j hh)))))] H := hP
                    have hD : va_D A [(y0, .inr (2, [.int tv, .int (nI rn), .ref q1, .ref q2, .int mn, .ref q3, .ref q4, .int ct, .int il, .ref q5])), (q1, .inl (cA, (2, .inl sf))), (q2, .inl (cA, (60, .inl lf))), (q3, .inl (cA, (320, .inl rf))), (q4, .inl (cA, (320, .inl nf))), (q5, .inl (cA, (6, .inl (upd g2 (hh - 1) (hgF (Vw w) j hh)))))] := hD
                    refine lv_aload_n hx hb dX2_hang_131 rfl (lv_at hl 5 rfl) ?_
                    refine va_get (D := (dC, dI)) (ci := 2) (v := .ref q5) (C := RX2) (T := TX2) (N := 10) hx hb hts (in_X2_hang_2) hown hK hP 0 rfl rfl 9 (by decide) (hts (.fieldLink RX2 26 "BraidWordsModel" "hangs" "[I") (List.mem_of_getElem? (i := 2) rfl)) (fun _ h9 => h9) rfl dX2_hang_132 ?_
                    refine lv_iload hx hb dX2_hang_135 (lv_at hl 2 rfl) ?_
                    refine lv_iload hx hb dX2_hang_137 (lv_at hl 1 rfl) ?_
                    refine va_iast hx hb hK hP hD hS 5 0 rfl rfl (vp_in_nI (by omega) (by decide)) dX2_hang_139 (fun H locs hP hD hS => ?_)
                    rw [show (nI hh).toNatClampNeg = hh from nI_clamp (by omega)] at hP hD
                    have hP : va_P (dC, dI) vwCl [(y0, .inr (2, [.int tv, .int (nI rn), .ref q1, .ref q2, .int mn, .ref q3, .ref q4, .int ct, .int il, .ref q5])), (q1, .inl (cA, (2, .inl sf))), (q2, .inl (cA, (60, .inl lf))), (q3, .inl (cA, (320, .inl rf))), (q4, .inl (cA, (320, .inl nf))), (q5, .inl (cA, (6, .inl (upd (upd g2 (hh - 1) (hgF (Vw w) j hh)) hh (hgF (Vw w) j (hh - 1))))))] H := hP
                    have hD : va_D A [(y0, .inr (2, [.int tv, .int (nI rn), .ref q1, .ref q2, .int mn, .ref q3, .ref q4, .int ct, .int il, .ref q5])), (q1, .inl (cA, (2, .inl sf))), (q2, .inl (cA, (60, .inl lf))), (q3, .inl (cA, (320, .inl rf))), (q4, .inl (cA, (320, .inl nf))), (q5, .inl (cA, (6, .inl (upd (upd g2 (hh - 1) (hgF (Vw w) j hh)) hh (hgF (Vw w) j (hh - 1))))))] := hD
                    refine lv_iinc (v := nI (j + 1)) (lv' := [(5, .int (nI (j + 1))), (8, .int (hgF (Vw w) j hh)), (7, .int (hgF (Vw w) j (hh - 1))), (6, .int (nI hh)), (4, .int (hsS (Vw w) a b (j + 1))), (0, .ref y0), (1, .int (nI w)), (2, .int a), (3, .int b)]) hx hb dX2_hang_140 hl (k := 3) rfl (g_inc _) (by decide) rfl (fun ls hl => ?_)
                    refine lv_goto (tgt := 33) hx hb dX2_hang_143 (by decide) ?_
                    exact ih33 (j + 1) (upd (upd g2 (hh - 1) (hgF (Vw w) j hh)) hh (hgF (Vw w) j (hh - 1))) (by omega) (fun p h => by rw [hgF_st hhd]; by_cases c2 : p = hh; (subst c2; rw [pk_us, if_neg (by omega), if_pos rfl]); (by_cases c1 : p = hh - 1; (subst c1; rw [pk_un c2, pk_us, if_pos rfl]); (rw [pk_un c2, pk_un c1, if_neg c1, if_neg c2]; exact hg2 p h))) (by omega) _ _ hP hD hS _ (lv_sub hl [0, 4, 5, 6, 7, 8] rfl)
                  · refine lv_iload hx hb dX2_hang_94 (lv_at hl 0 rfl) ?_
                    refine lv_iload_n hx hb dX2_hang_96 rfl (lv_at hl 7 rfl) ?_
                    refine lv_icmp_ne (tgt := 120) hx hb dX2_hang_97 (by decide) (fun c97 => ?_) (fun c97 => ?_)
                    · rw [show hsS (Vw w) a b j = hsS (Vw w) a b (j + 1) from by show _ = hsS (Vw w) a b j + _; rw [← hhd, if_neg (fun q => q.elim (fun z => by first | exact c79 z.1 | exact c85 z.2) (fun z => by first | exact c91 z.1 | exact c97 z.2)), Int32.add_zero]] at hl
                      refine lv_aload_n hx hb dX2_hang_120 rfl (lv_at hl 5 rfl) ?_
                      refine va_get (D := (dC, dI)) (ci := 2) (v := .ref q5) (C := RX2) (T := TX2) (N := 10) hx hb hts (in_X2_hang_2) hown hK hP 0 rfl rfl 9 (by decide) (hts (.fieldLink RX2 26 "BraidWordsModel" "hangs" "[I") (List.mem_of_getElem? (i := 2) rfl)) (fun _ h9 => h9) rfl dX2_hang_121 ?_
                      refine lv_iload hx hb dX2_hang_124 (lv_at hl 2 rfl) ?_
                      refine lv_iconst (v := 1) hx hb dX2_hang_126 (by decide) ?_
                      refine lv_isub hx hb dX2_hang_127 ?_
                      rw [show nI hh - 1 = nI (hh - 1) from nI_m1 u2]
                      refine lv_iload hx hb dX2_hang_128 (lv_at hl 0 rfl) ?_
                      refine va_iast hx hb hK hP hD hS 5 0 rfl rfl (vp_in_nI (by omega) (by decide)) dX2_hang_130 (fun H locs hP hD hS => ?_)
                      rw [show (nI (hh - 1)).toNatClampNeg = hh - 1 from nI_clamp (by omega)] at hP hD
                      have hP : va_P (dC, dI) vwCl [(y0, .inr (2, [.int tv, .int (nI rn), .ref q1, .ref q2, .int mn, .ref q3, .ref q4, .int ct, .int il, .ref q5])), (q1, .inl (cA, (2, .inl sf))), (q2, .inl (cA, (60, .inl lf))), (q3, .inl (cA, (320, .inl rf))), (q4, .inl (cA, (320, .inl nf))), (q5, .inl (cA, (6, .inl (upd g2 (hh - 1) (hgF (Vw w) j hh)))))] H := hP
                      have hD : va_D A [(y0, .inr (2, [.int tv, .int (nI rn), .ref q1, .ref q2, .int mn, .ref q3, .ref q4, .int ct, .int il, .ref q5])), (q1, .inl (cA, (2, .inl sf))), (q2, .inl (cA, (60, .inl lf))), (q3, .inl (cA, (320, .inl rf))), (q4, .inl (cA, (320, .inl nf))), (q5, .inl (cA, (6, .inl (upd g2 (hh - 1) (hgF (Vw w) j hh)))))] := hD
                      refine lv_aload_n hx hb dX2_hang_131 rfl (lv_at hl 5 rfl) ?_
                      refine va_get (D := (dC, dI)) (ci := 2) (v := .ref q5) (C := RX2) (T := TX2) (N := 10) hx hb hts (in_X2_hang_2) hown hK hP 0 rfl rfl 9 (by decide) (hts (.fieldLink RX2 26 "BraidWordsModel" "hangs" "[I") (List.mem_of_getElem? (i := 2) rfl)) (fun _ h9 => h9) rfl dX2_hang_132 ?_
                      refine lv_iload hx hb dX2_hang_135 (lv_at hl 2 rfl) ?_
                      refine lv_iload hx hb dX2_hang_137 (lv_at hl 1 rfl) ?_
                      refine va_iast hx hb hK hP hD hS 5 0 rfl rfl (vp_in_nI (by omega) (by decide)) dX2_hang_139 (fun H locs hP hD hS => ?_)
                      rw [show (nI hh).toNatClampNeg = hh from nI_clamp (by omega)] at hP hD
                      have hP : va_P (dC, dI) vwCl [(y0, .inr (2, [.int tv, .int (nI rn), .ref q1, .ref q2, .int mn, .ref q3, .ref q4, .int ct, .int il, .ref q5])), (q1, .inl (cA, (2, .inl sf))), (q2, .inl (cA, (60, .inl lf))), (q3, .inl (cA, (320, .inl rf))), (q4, .inl (cA, (320, .inl nf))), (q5, .inl (cA, (6, .inl (upd (upd g2 (hh - 1) (hgF (Vw w) j hh)) hh (hgF (Vw w) j (hh - 1))))))] H := hP
                      have hD : va_D A [(y0, .inr (2, [.int tv, .int (nI rn), .ref q1, .ref q2, .int mn, .ref q3, .ref q4, .int ct, .int il, .ref q5])), (q1, .inl (cA, (2, .inl sf))), (q2, .inl (cA, (60, .inl lf))), (q3, .inl (cA, (320, .inl rf))), (q4, .inl (cA, (320, .inl nf))), (q5, .inl (cA, (6, .inl (upd (upd g2 (hh - 1) (hgF (Vw w) j hh)) hh (hgF (Vw w) j (hh - 1))))))] := hD
                      refine lv_iinc (v := nI (j + 1)) (lv' := [(5, .int (nI (j + 1))), (8, .int (hgF (Vw w) j hh)), (7, .int (hgF (Vw w) j (hh - 1))), (6, .int (nI hh)), (4, .int (hsS (Vw w) a b (j + 1))), (0, .ref y0), (1, .int (nI w)), (2, .int a), (3, .int b)]) hx hb dX2_hang_140 hl (k := 3) rfl (g_inc _) (by decide) rfl (fun ls hl => ?_)
                      refine lv_goto (tgt := 33) hx hb dX2_hang_143 (by decide) ?_
                      exact ih33 (j + 1) (upd (upd g2 (hh - 1) (hgF (Vw w) j hh)) hh (hgF (Vw w) j (hh - 1))) (by omega) (fun p h => by rw [hgF_st hhd]; by_cases c2 : p = hh; (subst c2; rw [pk_us, if_neg (by omega), if_pos rfl]); (by_cases c1 : p = hh - 1; (subst c1; rw [pk_un c2, pk_us, if_pos rfl]); (rw [pk_un c2, pk_un c1, if_neg c1, if_neg c2]; exact hg2 p h))) (by omega) _ _ hP hD hS _ (lv_sub hl [0, 4, 5, 6, 7, 8] rfl)
                    · refine lv_iload hx hb dX2_hang_100 (lv_at hl 4 rfl) ?_
                      refine lv_aload_n hx hb dX2_hang_102 rfl (lv_at hl 5 rfl) ?_
                      refine lv_iload_n hx hb dX2_hang_103 rfl (lv_at hl 6 rfl) ?_
                      refine lv_iload hx hb dX2_hang_104 (lv_at hl 3 rfl) ?_
                      refine g_RVi (As := [.int (nI w), .int (nI j)]) (rest := [.int (hsS (Vw w) a b j)]) ⟨hx, hb, hml, hown, hts⟩ (mt_X2_at l dC dI cA H.size y0 q1 q2 q3 q4 q5 rn tv sf lf mn rf nf ct il g2 w j (by first | omega | (simp only [List.length_append, List.length_cons, List.length_nil, List.length_set, turnL_len]; omega)) (by first | omega | (simp only [List.length_append, List.length_cons, List.length_nil, List.length_set, turnL_len]; omega))) (cwV 2 hts gX2_hang_X2_at rfl rfl rfl hdX2_at ⟨Nat.le_of_ble_eq_true rfl, Nat.le_of_ble_eq_true rfl⟩) hP hK hD [0, 1, 2, 3, 4, 5] (by decide) rfl (va_recv hK hP (ci := 2) (q0 := 0) rfl rfl) rfl hl.1 rfl (Nat.le_of_ble_eq_true rfl) dX2_hang_106 (Nat.zero_le _) (Nat.zero_le _) ?_
                      rw [(hW w (by omega)).2.2 j (by omega)]
                      refine lv_if_le (tgt := 116) hx hb dX2_hang_109 (by decide) (fun c109 => ?_) (fun c109 => ?_)
                      · refine lv_iconst (v := (-1)) hx hb dX2_hang_116 (by decide) ?_
                        refine lv_topi (fun tp_5 etp_5 => ?_)
                        obtain rfl : tp_5 = sgI (atL (Vw w) j) := etp_5.trans ((ok_sgn rn hrn _ (okL_at (hok w hw) (show j < (Vw w).length by omega)) c109).symm)
                        refine lv_iadd hx hb dX2_hang_117 ?_
                        refine lv_istore (lv' := [(4, .int ((hsS (Vw w) a b j) + (sgI (atL (Vw w) j)))), (8, .int (hgF (Vw w) j hh)), (7, .int (hgF (Vw w) j (hh - 1))), (6, .int (nI hh)), (5, .int (nI j)), (0, .ref y0), (1, .int (nI w)), (2, .int a), (3, .int b)]) hx hb dX2_hang_118 hl (by decide) rfl (fun ls hl => ?_)
                        rw [show hsS (Vw w) a b j + sgI (atL (Vw w) j) = hsS (Vw w) a b (j + 1) from by show _ = hsS (Vw w) a b j + _; rw [← hhd, if_pos (by first | exact Or.inl ⟨c79, c85⟩ | exact Or.inr ⟨c91, c97⟩)]] at hl
                        refine lv_aload_n hx hb dX2_hang_120 rfl (lv_at hl 5 rfl) ?_
                        refine va_get (D := (dC, dI)) (ci := 2) (v := .ref q5) (C := RX2) (T := TX2) (N := 10) hx hb hts (in_X2_hang_2) hown hK hP 0 rfl rfl 9 (by decide) (hts (.fieldLink RX2 26 "BraidWordsModel" "hangs" "[I") (List.mem_of_getElem? (i := 2) rfl)) (fun _ h9 => h9) rfl dX2_hang_121 ?_
                        refine lv_iload hx hb dX2_hang_124 (lv_at hl 3 rfl) ?_
                        refine lv_iconst (v := 1) hx hb dX2_hang_126 (by decide) ?_
                        refine lv_isub hx hb dX2_hang_127 ?_
                        rw [show nI hh - 1 = nI (hh - 1) from nI_m1 u2]
                        refine lv_iload hx hb dX2_hang_128 (lv_at hl 1 rfl) ?_
                        refine va_iast hx hb hK hP hD hS 5 0 rfl rfl (vp_in_nI (by omega) (by decide)) dX2_hang_130 (fun H locs hP hD hS => ?_)
                        rw [show (nI (hh - 1)).toNatClampNeg = hh - 1 from nI_clamp (by omega)] at hP hD
                        have hP : va_P (dC, dI) vwCl [(y0, .inr (2, [.int tv, .int (nI rn), .ref q1, .ref q2, .int mn, .ref q3, .ref q4, .int ct, .int il, .ref q5])), (q1, .inl (cA, (2, .inl sf))), (q2, .inl (cA, (60, .inl lf))), (q3, .inl (cA, (320, .inl rf))), (q4, .inl (cA, (320, .inl nf))), (q5, .inl (cA, (6, .inl (upd g2 (hh - 1) (hgF (Vw w) j hh)))))] H := hP
                        have hD : va_D A [(y0, .inr (2, [.int tv, .int (nI rn), .ref q1, .ref q2, .int mn, .ref q3, .ref q4, .int ct, .int il, .ref q5])), (q1, .inl (cA, (2, .inl sf))), (q2, .inl (cA, (60, .inl lf))), (q3, .inl (cA, (320, .inl rf))), (q4, .inl (cA, (320, .inl nf))), (q5, .inl (cA, (6, .inl (upd g2 (hh - 1) (hgF (Vw w) j hh)))))] := hD
                        refine lv_aload_n hx hb dX2_hang_131 rfl (lv_at hl 5 rfl) ?_
                        refine va_get (D := (dC, dI)) (ci := 2) (v := .ref q5) (C := RX2) (T := TX2) (N := 10) hx hb hts (in_X2_hang_2) hown hK hP 0 rfl rfl 9 (by decide) (hts (.fieldLink RX2 26 "BraidWordsModel" "hangs" "[I") (List.mem_of_getElem? (i := 2) rfl)) (fun _ h9 => h9) rfl dX2_hang_132 ?_
                        refine lv_iload hx hb dX2_hang_135 (lv_at hl 3 rfl) ?_
                        refine lv_iload hx hb dX2_hang_137 (lv_at hl 2 rfl) ?_
                        refine va_iast hx hb hK hP hD hS 5 0 rfl rfl (vp_in_nI (by omega) (by decide)) dX2_hang_139 (fun H locs hP hD hS => ?_)
                        rw [show (nI hh).toNatClampNeg = hh from nI_clamp (by omega)] at hP hD
                        have hP : va_P (dC, dI) vwCl [(y0, .inr (2, [.int tv, .int (nI rn), .ref q1, .ref q2, .int mn, .ref q3, .ref q4, .int ct, .int il, .ref q5])), (q1, .inl (cA, (2, .inl sf))), (q2, .inl (cA, (60, .inl lf))), (q3, .inl (cA, (320, .inl rf))), (q4, .inl (cA, (320, .inl nf))), (q5, .inl (cA, (6, .inl (upd (upd g2 (hh - 1) (hgF (Vw w) j hh)) hh (hgF (Vw w) j (hh - 1))))))] H := hP
                        have hD : va_D A [(y0, .inr (2, [.int tv, .int (nI rn), .ref q1, .ref q2, .int mn, .ref q3, .ref q4, .int ct, .int il, .ref q5])), (q1, .inl (cA, (2, .inl sf))), (q2, .inl (cA, (60, .inl lf))), (q3, .inl (cA, (320, .inl rf))), (q4, .inl (cA, (320, .inl nf))), (q5, .inl (cA, (6, .inl (upd (upd g2 (hh - 1) (hgF (Vw w) j hh)) hh (hgF (Vw w) j (hh - 1))))))] := hD
                        refine lv_iinc (v := nI (j + 1)) (lv' := [(5, .int (nI (j + 1))), (4, .int (hsS (Vw w) a b (j + 1))), (8, .int (hgF (Vw w) j hh)), (7, .int (hgF (Vw w) j (hh - 1))), (6, .int (nI hh)), (0, .ref y0), (1, .int (nI w)), (2, .int a), (3, .int b)]) hx hb dX2_hang_140 hl (k := 4) rfl (g_inc _) (by decide) rfl (fun ls hl => ?_)
                        refine lv_goto (tgt := 33) hx hb dX2_hang_143 (by decide) ?_
                        exact ih33 (j + 1) (upd (upd g2 (hh - 1) (hgF (Vw w) j hh)) hh (hgF (Vw w) j (hh - 1))) (by omega) (fun p h => by rw [hgF_st hhd]; by_cases c2 : p = hh; (subst c2; rw [pk_us, if_neg (by omega), if_pos rfl]); (by_cases c1 : p = hh - 1; (subst c1; rw [pk_un c2, pk_us, if_pos rfl]); (rw [pk_un c2, pk_un c1, if_neg c1, if_neg c2]; exact hg2 p h))) (by omega) _ _ hP hD hS _ (lv_sub hl [0, 1, 5, 6, 7, 8] rfl)
                      · refine lv_iconst (v := 1) hx hb dX2_hang_112 (by decide) ?_
                        refine lv_goto (tgt := 117) hx hb dX2_hang_113 (by decide) ?_
                        refine lv_topi (fun tp_6 etp_6 => ?_)
                        obtain rfl : tp_6 = sgI (atL (Vw w) j) := etp_6.trans ((ok_sgp rn hrn _ (okL_at (hok w hw) (show j < (Vw w).length by omega)) c109).symm)
                        refine lv_iadd hx hb dX2_hang_117 ?_
                        refine lv_istore (lv' := [(4, .int ((hsS (Vw w) a b j) + (sgI (atL (Vw w) j)))), (8, .int (hgF (Vw w) j hh)), (7, .int (hgF (Vw w) j (hh - 1))), (6, .int (nI hh)), (5, .int (nI j)), (0, .ref y0), (1, .int (nI w)), (2, .int a), (3, .int b)]) hx hb dX2_hang_118 hl (by decide) rfl (fun ls hl => ?_)
                        rw [show hsS (Vw w) a b j + sgI (atL (Vw w) j) = hsS (Vw w) a b (j + 1) from by show _ = hsS (Vw w) a b j + _; rw [← hhd, if_pos (by first | exact Or.inl ⟨c79, c85⟩ | exact Or.inr ⟨c91, c97⟩)]] at hl
                        refine lv_aload_n hx hb dX2_hang_120 rfl (lv_at hl 5 rfl) ?_
                        refine va_get (D := (dC, dI)) (ci := 2) (v := .ref q5) (C := RX2) (T := TX2) (N := 10) hx hb hts (in_X2_hang_2) hown hK hP 0 rfl rfl 9 (by decide) (hts (.fieldLink RX2 26 "BraidWordsModel" "hangs" "[I") (List.mem_of_getElem? (i := 2) rfl)) (fun _ h9 => h9) rfl dX2_hang_121 ?_
                        refine lv_iload hx hb dX2_hang_124 (lv_at hl 3 rfl) ?_
                        refine lv_iconst (v := 1) hx hb dX2_hang_126 (by decide) ?_
                        refine lv_isub hx hb dX2_hang_127 ?_
                        rw [show nI hh - 1 = nI (hh - 1) from nI_m1 u2]
                        refine lv_iload hx hb dX2_hang_128 (lv_at hl 1 rfl) ?_
                        refine va_iast hx hb hK hP hD hS 5 0 rfl rfl (vp_in_nI (by omega) (by decide)) dX2_hang_130 (fun H locs hP hD hS => ?_)
                        rw [show (nI (hh - 1)).toNatClampNeg = hh - 1 from nI_clamp (by omega)] at hP hD
                        have hP : va_P (dC, dI) vwCl [(y0, .inr (2, [.int tv, .int (nI rn), .ref q1, .ref q2, .int mn, .ref q3, .ref q4, .int ct, .int il, .ref q5])), (q1, .inl (cA, (2, .inl sf))), (q2, .inl (cA, (60, .inl lf))), (q3, .inl (cA, (320, .inl rf))), (q4, .inl (cA, (320, .inl nf))), (q5, .inl (cA, (6, .inl (upd g2 (hh - 1) (hgF (Vw w) j hh)))))] H := hP
                        have hD : va_D A [(y0, .inr (2, [.int tv, .int (nI rn), .ref q1, .ref q2, .int mn, .ref q3, .ref q4, .int ct, .int il, .ref q5])), (q1, .inl (cA, (2, .inl sf))), (q2, .inl (cA, (60, .inl lf))), (q3, .inl (cA, (320, .inl rf))), (q4, .inl (cA, (320, .inl nf))), (q5, .inl (cA, (6, .inl (upd g2 (hh - 1) (hgF (Vw w) j hh)))))] := hD
                        refine lv_aload_n hx hb dX2_hang_131 rfl (lv_at hl 5 rfl) ?_
                        refine va_get (D := (dC, dI)) (ci := 2) (v := .ref q5) (C := RX2) (T := TX2) (N := 10) hx hb hts (in_X2_hang_2) hown hK hP 0 rfl rfl 9 (by decide) (hts (.fieldLink RX2 26 "BraidWordsModel" "hangs" "[I") (List.mem_of_getElem? (i := 2) rfl)) (fun _ h9 => h9) rfl dX2_hang_132 ?_
                        refine lv_iload hx hb dX2_hang_135 (lv_at hl 3 rfl) ?_
                        refine lv_iload hx hb dX2_hang_137 (lv_at hl 2 rfl) ?_
                        refine va_iast hx hb hK hP hD hS 5 0 rfl rfl (vp_in_nI (by omega) (by decide)) dX2_hang_139 (fun H locs hP hD hS => ?_)
                        rw [show (nI hh).toNatClampNeg = hh from nI_clamp (by omega)] at hP hD
                        have hP : va_P (dC, dI) vwCl [(y0, .inr (2, [.int tv, .int (nI rn), .ref q1, .ref q2, .int mn, .ref q3, .ref q4, .int ct, .int il, .ref q5])), (q1, .inl (cA, (2, .inl sf))), (q2, .inl (cA, (60, .inl lf))), (q3, .inl (cA, (320, .inl rf))), (q4, .inl (cA, (320, .inl nf))), (q5, .inl (cA, (6, .inl (upd (upd g2 (hh - 1) (hgF (Vw w) j hh)) hh (hgF (Vw w) j (hh - 1))))))] H := hP
                        have hD : va_D A [(y0, .inr (2, [.int tv, .int (nI rn), .ref q1, .ref q2, .int mn, .ref q3, .ref q4, .int ct, .int il, .ref q5])), (q1, .inl (cA, (2, .inl sf))), (q2, .inl (cA, (60, .inl lf))), (q3, .inl (cA, (320, .inl rf))), (q4, .inl (cA, (320, .inl nf))), (q5, .inl (cA, (6, .inl (upd (upd g2 (hh - 1) (hgF (Vw w) j hh)) hh (hgF (Vw w) j (hh - 1))))))] := hD
                        refine lv_iinc (v := nI (j + 1)) (lv' := [(5, .int (nI (j + 1))), (4, .int (hsS (Vw w) a b (j + 1))), (8, .int (hgF (Vw w) j hh)), (7, .int (hgF (Vw w) j (hh - 1))), (6, .int (nI hh)), (0, .ref y0), (1, .int (nI w)), (2, .int a), (3, .int b)]) hx hb dX2_hang_140 hl (k := 4) rfl (g_inc _) (by decide) rfl (fun ls hl => ?_)
                        refine lv_goto (tgt := 33) hx hb dX2_hang_143 (by decide) ?_
                        exact ih33 (j + 1) (upd (upd g2 (hh - 1) (hgF (Vw w) j hh)) hh (hgF (Vw w) j (hh - 1))) (by omega) (fun p h => by rw [hgF_st hhd]; by_cases c2 : p = hh; (subst c2; rw [pk_us, if_neg (by omega), if_pos rfl]); (by_cases c1 : p = hh - 1; (subst c1; rw [pk_un c2, pk_us, if_pos rfl]); (rw [pk_un c2, pk_un c1, if_neg c1, if_neg c2]; exact hg2 p h))) (by omega) _ _ hP hD hS _ (lv_sub hl [0, 1, 5, 6, 7, 8] rfl)
        exact lp33 (((Vw w).length - 0) + 1) 0 g1 (Nat.zero_le _) (fun p h => hg1 p (by omega)) (Nat.lt_succ_self _) _ _ hP hD hS _ (lv_sub hl [0, 1, 2, 3, 4, 5] rfl)
      · have c12 : k < rn := g_geF k rn (by omega) (by omega) c12
        refine lv_aload_n hx hb dX2_hang_15 rfl (lv_at hl 2 rfl) ?_
        refine va_get (D := (dC, dI)) (ci := 2) (v := .ref q5) (C := RX2) (T := TX2) (N := 10) hx hb hts (in_X2_hang_2) hown hK hP 0 rfl rfl 9 (by decide) (hts (.fieldLink RX2 26 "BraidWordsModel" "hangs" "[I") (List.mem_of_getElem? (i := 2) rfl)) (fun _ h9 => h9) rfl dX2_hang_16 ?_
        refine lv_iload hx hb dX2_hang_19 (lv_at hl 0 rfl) ?_
        refine lv_iload hx hb dX2_hang_21 (lv_at hl 0 rfl) ?_
        refine va_iast hx hb hK hP hD hS 5 0 rfl rfl (vp_in_nI (by omega) (by decide)) dX2_hang_23 (fun H locs hP hD hS => ?_)
        rw [show (nI k).toNatClampNeg = k from nI_clamp (by omega)] at hP hD
        have hP : va_P (dC, dI) vwCl [(y0, .inr (2, [.int tv, .int (nI rn), .ref q1, .ref q2, .int mn, .ref q3, .ref q4, .int ct, .int il, .ref q5])), (q1, .inl (cA, (2, .inl sf))), (q2, .inl (cA, (60, .inl lf))), (q3, .inl (cA, (320, .inl rf))), (q4, .inl (cA, (320, .inl nf))), (q5, .inl (cA, (6, .inl (upd g1 k (nI k)))))] H := hP
        have hD : va_D A [(y0, .inr (2, [.int tv, .int (nI rn), .ref q1, .ref q2, .int mn, .ref q3, .ref q4, .int ct, .int il, .ref q5])), (q1, .inl (cA, (2, .inl sf))), (q2, .inl (cA, (60, .inl lf))), (q3, .inl (cA, (320, .inl rf))), (q4, .inl (cA, (320, .inl nf))), (q5, .inl (cA, (6, .inl (upd g1 k (nI k)))))] := hD
        refine lv_iinc (v := nI (k + 1)) (lv' := [(5, .int (nI (k + 1))), (4, .int 0), (0, .ref y0), (1, .int (nI w)), (2, .int a), (3, .int b)]) hx hb dX2_hang_24 hl (k := 0) rfl (g_inc _) (by decide) rfl (fun ls hl => ?_)
        refine lv_goto (tgt := 6) hx hb dX2_hang_27 (by decide) ?_
        exact ih6 (k + 1) (upd g1 k (nI k)) (by omega) (fun p h => by by_cases c : p = k; (subst c; exact pk_us); (rw [pk_un c]; exact hg1 p (by omega))) (by omega) _ _ hP hD hS _ (lv_sub hl [0, 1, 2, 3, 4, 5] rfl)
  exact lp6 ((rn - 0) + 1) 0 gf (Nat.zero_le _) (fun p h => absurd h (Nat.not_lt_zero p)) (Nat.lt_succ_self _) _ _ hP hD hS _ (lv_sub hl [0, 1, 2, 3, 4, 5] rfl)

abbrev mt_X2_endOf_rm : Room := { frames := 2, cells := 0, slots := 0, locals := 50 }
set_option maxHeartbeats 4000000 in
set_option maxRecDepth 100000 in
theorem mt_X2_endOf (l : Launch) (dC : Nat → ClassId) (dI : Nat → Nat → Nat) (cA : ClassId) (sz : Nat) (y0 : Nat) (q1 : Nat) (q2 : Nat) (q3 : Nat) (q4 : Nat) (q5 : Nat) (rn : Nat) (tv : Int32) (sf : Nat → Int32) (lf : Nat → Int32) (mn : Int32) (rf : Nat → Int32) (nf : Nat → Int32) (ct : Int32) (il : Int32) (gf : Nat → Int32) (Vw : Nat → List Int32) (w : Nat) (r : Nat) (hW : MW Vw sf lf) (hrn : rn ∈ rnS) (hr6 : rn ≤ 6) (hok : ∀ w, w < 2 → okL rn (Vw w)) (hw : w < 2) (hrr : r < rn) : Met l yX2_endOf wsX2_endOf mt_X2_endOf_rm (va_Pc [.ref y0, .int (nI w), .int (nI r)] (gB (dC, dI) [(cA, .int)] [(y0, .inr (2, [.int tv, .int (nI rn), .ref q1, .ref q2, .int mn, .ref q3, .ref q4, .int ct, .int il, .ref q5])), (q1, .inl (cA, (2, .inl sf))), (q2, .inl (cA, (60, .inl lf))), (q3, .inl (cA, (320, .inl rf))), (q4, .inl (cA, (320, .inl nf))), (q5, .inl (cA, (6, .inl gf)))] sz)) (gM (dC, dI) (some (.int (plE (Vw w) (nI r) (Vw w).length))) (fun u : (Nat → Int32) => True) (fun u : (Nat → Int32) => [(y0, .inr (2, [.int tv, .int (nI rn), .ref q1, .ref q2, .int mn, .ref q3, .ref q4, .int ct, .int il, .ref q5])), (q1, .inl (cA, (2, .inl sf))), (q2, .inl (cA, (60, .inl lf))), (q3, .inl (cA, (320, .inl rf))), (q4, .inl (cA, (320, .inl nf))), (q5, .inl (cA, (6, .inl u)))]) (va_A [(y0, .inr (2, [.int tv, .int (nI rn), .ref q1, .ref q2, .int mn, .ref q3, .ref q4, .int ct, .int il, .ref q5])), (q1, .inl (cA, (2, .inl sf))), (q2, .inl (cA, (60, .inl lf))), (q3, .inl (cA, (320, .inl rf))), (q4, .inl (cA, (320, .inl nf))), (q5, .inl (cA, (6, .inl gf)))] sz)) 0 0 (va_A [(y0, .inr (2, [.int tv, .int (nI rn), .ref q1, .ref q2, .int mn, .ref q3, .ref q4, .int ct, .int il, .ref q5])), (q1, .inl (cA, (2, .inl sf))), (q2, .inl (cA, (60, .inl lf))), (q3, .inl (cA, (320, .inl rf))), (q4, .inl (cA, (320, .inl nf))), (q5, .inl (cA, (6, .inl gf)))] sz) := by
  refine g_ofM (cc := cX2_endOf) (maxL := 4) (ret := (some .int)) (by decide) rfl (Nat.le_of_ble_eq_true rfl) (fun p e s m below meth c ls hx hb hr hml hts hown hlocks hP hK hl hin A hA hD hS => ?_)
  have hl : lv_has ls 4 [(0, .ref y0), (1, .int (nI w)), (2, .int (nI r))] := hl
  have hWl := (hW w hw).2.1
  obtain ⟨P9, hP1, hP2, hP3, hP4⟩ := hg_pl hrn hr6 (hok w hw) hrr (Nat.le_refl _)
  refine lv_aload_n hx hb dX2_endOf_0 rfl (lv_at hl 0 rfl) ?_
  refine lv_iload_n hx hb dX2_endOf_1 rfl (lv_at hl 1 rfl) ?_
  refine lv_iconst (v := (-1)) hx hb dX2_endOf_2 (by decide) ?_
  refine lv_iconst (v := (-1)) hx hb dX2_endOf_3 (by decide) ?_
  refine g_MVi (As := [.int (nI w), .int (-1), .int (-1)]) (rest := []) ⟨hx, hb, hml, hown, hts⟩ (mt_X2_hang l dC dI cA s.heap.size y0 q1 q2 q3 q4 q5 rn tv sf lf mn rf nf ct il gf Vw w (-1) (-1) hW hrn hr6 hok hw) (cwV 3 hts gX2_endOf_X2_hang rfl rfl rfl hdX2_hang ⟨Nat.le_of_ble_eq_true rfl, Nat.le_of_ble_eq_true rfl⟩) hP hK hD hS hA [0, 1, 2, 3, 4, 5] (by decide) rfl (va_recv hK hP (ci := 2) (q0 := 0) rfl rfl) rfl hl.1 rfl (Nat.le_of_ble_eq_true rfl) dX2_endOf_4 (Nat.zero_le _) (Nat.zero_le _) (fun u9 => [(y0, .inr (2, [.int tv, .int (nI rn), .ref q1, .ref q2, .int mn, .ref q3, .ref q4, .int ct, .int il, .ref q5])), (q1, .inl (cA, (2, .inl sf))), (q2, .inl (cA, (60, .inl lf))), (q3, .inl (cA, (320, .inl rf))), (q4, .inl (cA, (320, .inl nf))), (q5, .inl (cA, (6, .inl u9)))]) (fun _ => rfl) (fun _ => rfl) (fun u H locs hw_2 hP hD hS => ?_)
  obtain ⟨g9_1, rfl⟩ : ∃ z, z = u := ⟨_, rfl⟩
  have hw_2 : ∀ p, p < rn → g9_1 p = hgF (Vw w) (Vw w).length p := hw_2
  have hP : va_P (dC, dI) vwCl [(y0, .inr (2, [.int tv, .int (nI rn), .ref q1, .ref q2, .int mn, .ref q3, .ref q4, .int ct, .int il, .ref q5])), (q1, .inl (cA, (2, .inl sf))), (q2, .inl (cA, (60, .inl lf))), (q3, .inl (cA, (320, .inl rf))), (q4, .inl (cA, (320, .inl nf))), (q5, .inl (cA, (6, .inl g9_1)))] H := hP
  have hD : va_D A [(y0, .inr (2, [.int tv, .int (nI rn), .ref q1, .ref q2, .int mn, .ref q3, .ref q4, .int ct, .int il, .ref q5])), (q1, .inl (cA, (2, .inl sf))), (q2, .inl (cA, (60, .inl lf))), (q3, .inl (cA, (320, .inl rf))), (q4, .inl (cA, (320, .inl nf))), (q5, .inl (cA, (6, .inl g9_1)))] := hD
  have hg9 := hw_2
  refine lv_pop hx hb dX2_endOf_7 rfl ?_
  refine lv_iconst (v := 0) hx hb dX2_endOf_8 (by decide) ?_
  refine lv_istore_n (lv' := [(3, .int 0), (0, .ref y0), (1, .int (nI w)), (2, .int (nI r))]) hx hb dX2_endOf_9 rfl hl (by decide) rfl (fun ls hl => ?_)
  have lp10 : ∀ (d : Nat) (p9 : Nat) (hp9 : p9 ≤ P9), P9 - p9 < d → ∀ (H : Heap) (locs : List Loc), va_P (dC, dI) vwCl [(y0, .inr (2, [.int tv, .int (nI rn), .ref q1, .ref q2, .int mn, .ref q3, .ref q4, .int ct, .int il, .ref q5])), (q1, .inl (cA, (2, .inl sf))), (q2, .inl (cA, (60, .inl lf))), (q3, .inl (cA, (320, .inl rf))), (q4, .inl (cA, (320, .inl nf))), (q5, .inl (cA, (6, .inl g9_1)))] H → va_D A [(y0, .inr (2, [.int tv, .int (nI rn), .ref q1, .ref q2, .int mn, .ref q3, .ref q4, .int ct, .int il, .ref q5])), (q1, .inl (cA, (2, .inl sf))), (q2, .inl (cA, (60, .inl lf))), (q3, .inl (cA, (320, .inl rf))), (q4, .inl (cA, (320, .inl nf))), (q5, .inl (cA, (6, .inl g9_1)))] → va_S A s.heap H locs → ∀ ls : Array Slot, lv_has ls 4 [(3, .int (nI p9)), (0, .ref y0), (1, .int (nI w)), (2, .int (nI r))] → W p l e mt_X2_endOf_rm s m ([.ref y0, .int (nI w), .int (nI r)] : List Value).toArray below meth c H locs 0 0 (MQ below (gM (dC, dI) (some (.int (plE (Vw w) (nI r) (Vw w).length))) (fun u : (Nat → Int32) => True) (fun u : (Nat → Int32) => [(y0, .inr (2, [.int tv, .int (nI rn), .ref q1, .ref q2, .int mn, .ref q3, .ref q4, .int ct, .int il, .ref q5])), (q1, .inl (cA, (2, .inl sf))), (q2, .inl (cA, (60, .inl lf))), (q3, .inl (cA, (320, .inl rf))), (q4, .inl (cA, (320, .inl nf))), (q5, .inl (cA, (6, .inl u)))]) A) ([.ref y0, .int (nI w), .int (nI r)] : List Value).toArray s 0 0 A) (F0 m 10 ls []) := by
    intro d
    induction d with
    | zero => intro p9 hp9 hd; exact absurd hd (Nat.not_lt_zero _)
    | succ d ih10 =>
      intro p9 hp9 hd H locs hP hD hS ls hl
      refine lv_aload_n hx hb dX2_endOf_10 rfl (lv_at hl 1 rfl) ?_
      refine va_get (D := (dC, dI)) (ci := 2) (v := .ref q5) (C := RX2) (T := TX2) (N := 10) hx hb hts (in_X2_endOf_2) hown hK hP 0 rfl rfl 9 (by decide) (hts (.fieldLink RX2 26 "BraidWordsModel" "hangs" "[I") (List.mem_of_getElem? (i := 1) rfl)) (fun _ h9 => h9) rfl dX2_endOf_11 ?_
      refine lv_iload_n hx hb dX2_endOf_14 rfl (lv_at hl 0 rfl) ?_
      refine va_iald hx hb hK hP 5 0 rfl rfl (vp_in_nI (by omega) (by decide)) dX2_endOf_15 ?_
      rw [show (nI p9).toNatClampNeg = p9 from nI_clamp (by omega)]
      rw [hg9 p9 (by omega)]
      refine lv_iload_n hx hb dX2_endOf_16 rfl (lv_at hl 3 rfl) ?_
      refine lv_icmp_eq (tgt := 26) hx hb dX2_endOf_17 (by decide) (fun c17 => ?_) (fun c17 => ?_)
      · have hpe : p9 = P9 := hP4 p9 (by omega) c17
        refine lv_iload_n hx hb dX2_endOf_26 rfl (lv_at hl 0 rfl) ?_
        exact g_endMi hx hb hr hlocks hP hS dX2_endOf_27 g9_1 rfl (by rw [hP2, hpe]) trivial
      · have hpe : ¬ p9 = P9 := fun q => c17 (by rw [q]; exact hP3)
        refine lv_iinc (v := nI (p9 + 1)) (lv' := [(3, .int (nI (p9 + 1))), (0, .ref y0), (1, .int (nI w)), (2, .int (nI r))]) hx hb dX2_endOf_20 hl (k := 0) rfl (g_inc _) (by decide) rfl (fun ls hl => ?_)
        refine lv_goto (tgt := 10) hx hb dX2_endOf_23 (by decide) ?_
        exact ih10 (p9 + 1) (by omega) (by omega) _ _ hP hD hS _ (lv_sub hl [0, 1, 2, 3] rfl)
  exact lp10 ((P9 - 0) + 1) 0 (Nat.zero_le _) (Nat.lt_succ_self _) _ _ hP hD hS _ (lv_sub hl [0, 1, 2, 3] rfl)

abbrev mt_X2_signs_rm : Room := { frames := 1, cells := 0, slots := 0, locals := 22 }
set_option maxHeartbeats 4000000 in
set_option maxRecDepth 100000 in
theorem mt_X2_signs (l : Launch) (dC : Nat → ClassId) (dI : Nat → Nat → Nat) (cA : ClassId) (sz : Nat) (y0 : Nat) (q1 : Nat) (q2 : Nat) (q3 : Nat) (q4 : Nat) (q5 : Nat) (rn : Nat) (tv : Int32) (sf : Nat → Int32) (lf : Nat → Int32) (mn : Int32) (rf : Nat → Int32) (nf : Nat → Int32) (ct : Int32) (il : Int32) (gf : Nat → Int32) (Vw : Nat → List Int32) (w : Nat) (hW : MW Vw sf lf) (hrn : rn ∈ rnS) (hr6 : rn ≤ 6) (hok : ∀ w, w < 2 → okL rn (Vw w)) (hw : w < 2) : Met l yX2_signs wsX2_signs mt_X2_signs_rm (va_Pc [.ref y0, .int (nI w)] (gB (dC, dI) [(cA, .int)] [(y0, .inr (2, [.int tv, .int (nI rn), .ref q1, .ref q2, .int mn, .ref q3, .ref q4, .int ct, .int il, .ref q5])), (q1, .inl (cA, (2, .inl sf))), (q2, .inl (cA, (60, .inl lf))), (q3, .inl (cA, (320, .inl rf))), (q4, .inl (cA, (320, .inl nf))), (q5, .inl (cA, (6, .inl gf)))] sz)) (gR (some (.int (accL (Vw w) sgI (Vw w).length)))) 0 0 (fun _ => False) := by
  refine g_ofR (cc := cX2_signs) (maxL := 4) (ret := (some .int)) (by decide) rfl (Nat.le_of_ble_eq_true rfl) (fun p e s m below meth c ls hx hb hr hml hts hown hlocks hP hK hl hD => ?_)
  have hS : va_S (fun _ => True) s.heap s.heap [] := va_S.rf
  have hl : lv_has ls 4 [(0, .ref y0), (1, .int (nI w))] := hl
  have hWl := (hW w hw).2.1
  refine lv_iconst (v := 0) hx hb dX2_signs_0 (by decide) ?_
  refine lv_istore_n (lv' := [(2, .int 0), (0, .ref y0), (1, .int (nI w))]) hx hb dX2_signs_1 rfl hl (by decide) rfl (fun ls hl => ?_)
  refine lv_iconst (v := 0) hx hb dX2_signs_2 (by decide) ?_
  refine lv_istore_n (lv' := [(3, .int 0), (2, .int 0), (0, .ref y0), (1, .int (nI w))]) hx hb dX2_signs_3 rfl hl (by decide) rfl (fun ls hl => ?_)
  have lp4 : ∀ (d : Nat) (k : Nat) (hk9 : k ≤ (Vw w).length), (Vw w).length - k < d → ∀ ls : Array Slot, lv_has ls 4 [(3, .int (nI k)), (2, .int (accL (Vw w) sgI k)), (0, .ref y0), (1, .int (nI w))] → W p l e mt_X2_signs_rm s m ([.ref y0, .int (nI w)] : List Value).toArray below meth c s.heap [] 0 0 (MQ below (gR (some (.int (accL (Vw w) sgI (Vw w).length)))) ([.ref y0, .int (nI w)] : List Value).toArray s 0 0 (fun _ => False)) (F0 m 4 ls []) := by
    intro d
    induction d with
    | zero => intro k hk9 hd; exact absurd hd (Nat.not_lt_zero _)
    | succ d ih4 =>
      intro k hk9 hd ls hl
      refine lv_iload_n hx hb dX2_signs_4 rfl (lv_at hl 0 rfl) ?_
      refine lv_aload_n hx hb dX2_signs_5 rfl (lv_at hl 2 rfl) ?_
      refine va_get (D := (dC, dI)) (ci := 2) (v := .ref q1) (C := RX2) (T := TX2) (N := 10) hx hb hts (in_X2_signs_2) hown hK hP 0 rfl rfl 2 (by decide) (hts (.fieldLink RX2 13 "BraidWordsModel" "size" "[I") (List.mem_of_getElem? (i := 1) rfl)) (fun _ h9 => h9) rfl dX2_signs_6 ?_
      refine lv_iload_n hx hb dX2_signs_9 rfl (lv_at hl 3 rfl) ?_
      refine va_iald hx hb hK hP 1 0 rfl rfl (vp_in_nI (by omega) (by decide)) dX2_signs_10 ?_
      rw [show (nI w).toNatClampNeg = w from nI_clamp (by omega)]
      rw [(hW w (by omega)).1]
      refine lv_icmp_ge (tgt := 37) hx hb dX2_signs_11 (by decide) (fun c11 => ?_) (fun c11 => ?_)
      · have c11 : ((Vw w).length) ≤ k := g_geT k ((Vw w).length) (by omega) (by omega) c11
        refine lv_iload_n hx hb dX2_signs_37 rfl (lv_at hl 1 rfl) ?_
        exact g_endRi hx hb hr hlocks dX2_signs_38 (by rw [show k = (Vw w).length by omega])
      · have c11 : k < ((Vw w).length) := g_geF k ((Vw w).length) (by omega) (by omega) c11
        refine lv_iload_n hx hb dX2_signs_14 rfl (lv_at hl 1 rfl) ?_
        refine lv_aload_n hx hb dX2_signs_15 rfl (lv_at hl 2 rfl) ?_
        refine lv_iload_n hx hb dX2_signs_16 rfl (lv_at hl 3 rfl) ?_
        refine lv_iload_n hx hb dX2_signs_17 rfl (lv_at hl 0 rfl) ?_
        refine g_RVi (As := [.int (nI w), .int (nI k)]) (rest := [.int (accL (Vw w) sgI k)]) ⟨hx, hb, hml, hown, hts⟩ (mt_X2_at l dC dI cA s.heap.size y0 q1 q2 q3 q4 q5 rn tv sf lf mn rf nf ct il gf w k (by first | omega | (simp only [List.length_append, List.length_cons, List.length_nil, List.length_set, turnL_len]; omega)) (by first | omega | (simp only [List.length_append, List.length_cons, List.length_nil, List.length_set, turnL_len]; omega))) (cwV 2 hts gX2_signs_X2_at rfl rfl rfl hdX2_at ⟨Nat.le_of_ble_eq_true rfl, Nat.le_of_ble_eq_true rfl⟩) hP hK hD [0, 1, 2, 3, 4, 5] (by decide) rfl (va_recv hK hP (ci := 2) (q0 := 0) rfl rfl) rfl hl.1 rfl (Nat.le_of_ble_eq_true rfl) dX2_signs_18 (Nat.zero_le _) (Nat.zero_le _) ?_
        rw [(hW w (by omega)).2.2 k (by omega)]
        refine lv_if_le (tgt := 28) hx hb dX2_signs_21 (by decide) (fun c21 => ?_) (fun c21 => ?_)
        · refine lv_iconst (v := (-1)) hx hb dX2_signs_28 (by decide) ?_
          refine lv_topi (fun tp_1 etp_1 => ?_)
          obtain rfl : tp_1 = sgI (atL (Vw w) k) := etp_1.trans ((ok_sgn rn hrn _ (okL_at (hok w hw) (show k < (Vw w).length by omega)) c21).symm)
          refine lv_iadd hx hb dX2_signs_29 ?_
          refine lv_istore_n (lv' := [(2, .int ((accL (Vw w) sgI k) + (sgI (atL (Vw w) k)))), (3, .int (nI k)), (0, .ref y0), (1, .int (nI w))]) hx hb dX2_signs_30 rfl hl (by decide) rfl (fun ls hl => ?_)
          refine lv_iinc (v := nI (k + 1)) (lv' := [(3, .int (nI (k + 1))), (2, .int ((accL (Vw w) sgI k) + (sgI (atL (Vw w) k)))), (0, .ref y0), (1, .int (nI w))]) hx hb dX2_signs_31 hl (k := 1) rfl (g_inc _) (by decide) rfl (fun ls hl => ?_)
          refine lv_goto (tgt := 4) hx hb dX2_signs_34 (by decide) ?_
          exact ih4 (k + 1) (by omega) (by omega) _ (lv_sub hl [0, 1, 2, 3] rfl)
        · refine lv_iconst (v := 1) hx hb dX2_signs_24 (by decide) ?_
          refine lv_goto (tgt := 29) hx hb dX2_signs_25 (by decide) ?_
          refine lv_topi (fun tp_2 etp_2 => ?_)
          obtain rfl : tp_2 = sgI (atL (Vw w) k) := etp_2.trans ((ok_sgp rn hrn _ (okL_at (hok w hw) (show k < (Vw w).length by omega)) c21).symm)
          refine lv_iadd hx hb dX2_signs_29 ?_
          refine lv_istore_n (lv' := [(2, .int ((accL (Vw w) sgI k) + (sgI (atL (Vw w) k)))), (3, .int (nI k)), (0, .ref y0), (1, .int (nI w))]) hx hb dX2_signs_30 rfl hl (by decide) rfl (fun ls hl => ?_)
          refine lv_iinc (v := nI (k + 1)) (lv' := [(3, .int (nI (k + 1))), (2, .int ((accL (Vw w) sgI k) + (sgI (atL (Vw w) k)))), (0, .ref y0), (1, .int (nI w))]) hx hb dX2_signs_31 hl (k := 1) rfl (g_inc _) (by decide) rfl (fun ls hl => ?_)
          refine lv_goto (tgt := 4) hx hb dX2_signs_34 (by decide) ?_
          exact ih4 (k + 1) (by omega) (by omega) _ (lv_sub hl [0, 1, 2, 3] rfl)
  exact lp4 (((Vw w).length - 0) + 1) 0 (Nat.zero_le _) (Nat.lt_succ_self _) _ (lv_sub hl [0, 1, 2, 3] rfl)

abbrev mt_X2_counted_rm : Room := { frames := 2, cells := 0, slots := 0, locals := 45 }
set_option maxHeartbeats 4000000 in
set_option maxRecDepth 100000 in
theorem mt_X2_counted (l : Launch) (dC : Nat → ClassId) (dI : Nat → Nat → Nat) (cA : ClassId) (sz : Nat) (y0 : Nat) (q1 : Nat) (q2 : Nat) (q3 : Nat) (q4 : Nat) (q5 : Nat) (rn : Nat) (tv : Int32) (sf : Nat → Int32) (lf : Nat → Int32) (mn : Int32) (rf : Nat → Int32) (nf : Nat → Int32) (ct : Int32) (il : Int32) (gf : Nat → Int32) (Vw : Nat → List Int32) (q : Nat) (hW : MW Vw sf lf) (hrn : rn ∈ rnS) (hr6 : rn ≤ 6) (hok : ∀ w, w < 2 → okL rn (Vw w)) (hq : q < 5) : Met l yX2_counted wsX2_counted mt_X2_counted_rm (va_Pc [.ref y0, .int (nI q)] (gB (dC, dI) [(cA, .int)] [(y0, .inr (2, [.int tv, .int (nI rn), .ref q1, .ref q2, .int mn, .ref q3, .ref q4, .int ct, .int il, .ref q5])), (q1, .inl (cA, (2, .inl sf))), (q2, .inl (cA, (60, .inl lf))), (q3, .inl (cA, (320, .inl rf))), (q4, .inl (cA, (320, .inl nf))), (q5, .inl (cA, (6, .inl gf)))] sz)) (gR (some (.int (coI rn (Vw 0) (Vw 1) q)))) 0 0 (fun _ => False) := by
  refine g_ofR (cc := cX2_counted) (maxL := 2) (ret := (some .int)) (by decide) rfl (Nat.le_of_ble_eq_true rfl) (fun p e s m below meth c ls hx hb hr hml hts hown hlocks hP hK hl hD => ?_)
  have hS : va_S (fun _ => True) s.heap s.heap [] := va_S.rf
  have hl : lv_has ls 2 [(0, .ref y0), (1, .int (nI q))] := hl
  have hWa := (hW 0 (by omega)).2.1
  have hWb := (hW 1 (by omega)).2.1
  obtain rfl | rfl | rfl | rfl | rfl : q = 0 ∨ q = 1 ∨ q = 2 ∨ q = 3 ∨ q = 4 := by omega
  · refine lv_iload_n hx hb dX2_counted_0 rfl (lv_at hl 1 rfl) ?_
    refine lv_if_ne (tgt := 11) hx hb dX2_counted_1 (by decide) (fun c1 => ?_) (fun c1 => ?_)
    · exact absurd (g_neT 0 0 (by omega) (by omega) c1) (by omega)
    · have c1 : 0 = 0 := g_neF 0 0 (by omega) (by omega) c1
      refine lv_aload_n hx hb dX2_counted_4 rfl (lv_at hl 0 rfl) ?_
      refine va_get (D := (dC, dI)) (ci := 2) (v := .int (nI rn)) (C := RX2) (T := TX2) (N := 10) hx hb hts (in_X2_counted_2) hown hK hP 0 rfl rfl 1 (by decide) (hts (.fieldLink RX2 9 "BraidWordsModel" "ropes" "I") (List.mem_of_getElem? (i := 1) rfl)) (fun _ h9 => h9) rfl dX2_counted_5 ?_
      refine lv_goto (tgt := 34) hx hb dX2_counted_8 (by decide) ?_
      exact g_endRi hx hb hr hlocks dX2_counted_34 rfl
  · refine lv_iload_n hx hb dX2_counted_0 rfl (lv_at hl 1 rfl) ?_
    refine lv_if_ne (tgt := 11) hx hb dX2_counted_1 (by decide) (fun c1 => ?_) (fun c1 => ?_)
    · have c1 : ¬ 1 = 0 := g_neT 1 0 (by omega) (by omega) c1
      refine lv_iload_n hx hb dX2_counted_11 rfl (lv_at hl 1 rfl) ?_
      refine lv_iconst (v := 3) hx hb dX2_counted_12 (by decide) ?_
      refine lv_icmp_ge (tgt := 27) hx hb dX2_counted_13 (by decide) (fun c13 => ?_) (fun c13 => ?_)
      · exact absurd (g_geT 1 3 (by omega) (by omega) c13) (by omega)
      · have c13 : 1 < 3 := g_geF 1 3 (by omega) (by omega) c13
        refine lv_aload_n hx hb dX2_counted_16 rfl (lv_at hl 0 rfl) ?_
        refine va_get (D := (dC, dI)) (ci := 2) (v := .ref q1) (C := RX2) (T := TX2) (N := 10) hx hb hts (in_X2_counted_2) hown hK hP 0 rfl rfl 2 (by decide) (hts (.fieldLink RX2 13 "BraidWordsModel" "size" "[I") (List.mem_of_getElem? (i := 2) rfl)) (fun _ h9 => h9) rfl dX2_counted_17 ?_
        refine lv_iload_n hx hb dX2_counted_20 rfl (lv_at hl 1 rfl) ?_
        refine lv_iconst (v := 1) hx hb dX2_counted_21 (by decide) ?_
        refine lv_isub hx hb dX2_counted_22 ?_
        rw [show (nI 1 : Int32) - 1 = nI 0 from by decide]
        refine va_iald hx hb hK hP 1 0 rfl rfl (vp_in_nI (by omega) (by decide)) dX2_counted_23 ?_
        rw [show (nI 0).toNatClampNeg = 0 from nI_clamp (by omega)]
        rw [(hW 0 (by omega)).1]
        refine lv_goto (tgt := 34) hx hb dX2_counted_24 (by decide) ?_
        exact g_endRi hx hb hr hlocks dX2_counted_34 rfl
    · exact absurd (g_neF 1 0 (by omega) (by omega) c1) (by omega)
  · refine lv_iload_n hx hb dX2_counted_0 rfl (lv_at hl 1 rfl) ?_
    refine lv_if_ne (tgt := 11) hx hb dX2_counted_1 (by decide) (fun c1 => ?_) (fun c1 => ?_)
    · have c1 : ¬ 2 = 0 := g_neT 2 0 (by omega) (by omega) c1
      refine lv_iload_n hx hb dX2_counted_11 rfl (lv_at hl 1 rfl) ?_
      refine lv_iconst (v := 3) hx hb dX2_counted_12 (by decide) ?_
      refine lv_icmp_ge (tgt := 27) hx hb dX2_counted_13 (by decide) (fun c13 => ?_) (fun c13 => ?_)
      · exact absurd (g_geT 2 3 (by omega) (by omega) c13) (by omega)
      · have c13 : 2 < 3 := g_geF 2 3 (by omega) (by omega) c13
        refine lv_aload_n hx hb dX2_counted_16 rfl (lv_at hl 0 rfl) ?_
        refine va_get (D := (dC, dI)) (ci := 2) (v := .ref q1) (C := RX2) (T := TX2) (N := 10) hx hb hts (in_X2_counted_2) hown hK hP 0 rfl rfl 2 (by decide) (hts (.fieldLink RX2 13 "BraidWordsModel" "size" "[I") (List.mem_of_getElem? (i := 2) rfl)) (fun _ h9 => h9) rfl dX2_counted_17 ?_
        refine lv_iload_n hx hb dX2_counted_20 rfl (lv_at hl 1 rfl) ?_
        refine lv_iconst (v := 1) hx hb dX2_counted_21 (by decide) ?_
        refine lv_isub hx hb dX2_counted_22 ?_
        rw [show (nI 2 : Int32) - 1 = nI 1 from by decide]
        refine va_iald hx hb hK hP 1 0 rfl rfl (vp_in_nI (by omega) (by decide)) dX2_counted_23 ?_
        rw [show (nI 1).toNatClampNeg = 1 from nI_clamp (by omega)]
        rw [(hW 1 (by omega)).1]
        refine lv_goto (tgt := 34) hx hb dX2_counted_24 (by decide) ?_
        exact g_endRi hx hb hr hlocks dX2_counted_34 rfl
    · exact absurd (g_neF 2 0 (by omega) (by omega) c1) (by omega)
  · refine lv_iload_n hx hb dX2_counted_0 rfl (lv_at hl 1 rfl) ?_
    refine lv_if_ne (tgt := 11) hx hb dX2_counted_1 (by decide) (fun c1 => ?_) (fun c1 => ?_)
    · have c1 : ¬ 3 = 0 := g_neT 3 0 (by omega) (by omega) c1
      refine lv_iload_n hx hb dX2_counted_11 rfl (lv_at hl 1 rfl) ?_
      refine lv_iconst (v := 3) hx hb dX2_counted_12 (by decide) ?_
      refine lv_icmp_ge (tgt := 27) hx hb dX2_counted_13 (by decide) (fun c13 => ?_) (fun c13 => ?_)
      · have c13 : 3 ≤ 3 := g_geT 3 3 (by omega) (by omega) c13
        refine lv_aload_n hx hb dX2_counted_27 rfl (lv_at hl 0 rfl) ?_
        refine lv_iload_n hx hb dX2_counted_28 rfl (lv_at hl 1 rfl) ?_
        refine lv_iconst (v := 3) hx hb dX2_counted_29 (by decide) ?_
        refine lv_isub hx hb dX2_counted_30 ?_
        rw [show (nI 3 : Int32) - 3 = nI 0 from by decide]
        refine g_RVi (As := [.int (nI 0)]) (rest := []) ⟨hx, hb, hml, hown, hts⟩ (mt_X2_signs l dC dI cA s.heap.size y0 q1 q2 q3 q4 q5 rn tv sf lf mn rf nf ct il gf Vw 0 hW hrn hr6 hok (by omega)) (cwV 1 hts gX2_counted_X2_signs rfl rfl rfl hdX2_signs ⟨Nat.le_of_ble_eq_true rfl, Nat.le_of_ble_eq_true rfl⟩) hP hK hD [0, 1, 2, 3, 4, 5] (by decide) rfl (va_recv hK hP (ci := 2) (q0 := 0) rfl rfl) rfl hl.1 rfl (Nat.le_of_ble_eq_true rfl) dX2_counted_31 (Nat.zero_le _) (Nat.zero_le _) ?_
        exact g_endRi hx hb hr hlocks dX2_counted_34 rfl
      · exact absurd (g_geF 3 3 (by omega) (by omega) c13) (by omega)
    · exact absurd (g_neF 3 0 (by omega) (by omega) c1) (by omega)
  · refine lv_iload_n hx hb dX2_counted_0 rfl (lv_at hl 1 rfl) ?_
    refine lv_if_ne (tgt := 11) hx hb dX2_counted_1 (by decide) (fun c1 => ?_) (fun c1 => ?_)
    · have c1 : ¬ 4 = 0 := g_neT 4 0 (by omega) (by omega) c1
      refine lv_iload_n hx hb dX2_counted_11 rfl (lv_at hl 1 rfl) ?_
      refine lv_iconst (v := 3) hx hb dX2_counted_12 (by decide) ?_
      refine lv_icmp_ge (tgt := 27) hx hb dX2_counted_13 (by decide) (fun c13 => ?_) (fun c13 => ?_)
      · have c13 : 3 ≤ 4 := g_geT 4 3 (by omega) (by omega) c13
        refine lv_aload_n hx hb dX2_counted_27 rfl (lv_at hl 0 rfl) ?_
        refine lv_iload_n hx hb dX2_counted_28 rfl (lv_at hl 1 rfl) ?_
        refine lv_iconst (v := 3) hx hb dX2_counted_29 (by decide) ?_
        refine lv_isub hx hb dX2_counted_30 ?_
        rw [show (nI 4 : Int32) - 3 = nI 1 from by decide]
        refine g_RVi (As := [.int (nI 1)]) (rest := []) ⟨hx, hb, hml, hown, hts⟩ (mt_X2_signs l dC dI cA s.heap.size y0 q1 q2 q3 q4 q5 rn tv sf lf mn rf nf ct il gf Vw 1 hW hrn hr6 hok (by omega)) (cwV 1 hts gX2_counted_X2_signs rfl rfl rfl hdX2_signs ⟨Nat.le_of_ble_eq_true rfl, Nat.le_of_ble_eq_true rfl⟩) hP hK hD [0, 1, 2, 3, 4, 5] (by decide) rfl (va_recv hK hP (ci := 2) (q0 := 0) rfl rfl) rfl hl.1 rfl (Nat.le_of_ble_eq_true rfl) dX2_counted_31 (Nat.zero_le _) (Nat.zero_le _) ?_
        exact g_endRi hx hb hr hlocks dX2_counted_34 rfl
      · exact absurd (g_geF 4 3 (by omega) (by omega) c13) (by omega)
    · exact absurd (g_neF 4 0 (by omega) (by omega) c1) (by omega)

abbrev mt_X2_handleTold_rm : Room := { frames := 3, cells := 0, slots := 0, locals := 69 }
set_option maxHeartbeats 4000000 in
set_option maxRecDepth 100000 in
theorem mt_X2_handleTold (l : Launch) (dC : Nat → ClassId) (dI : Nat → Nat → Nat) (cA : ClassId) (sz : Nat) (y0 : Nat) (q1 : Nat) (q2 : Nat) (q3 : Nat) (q4 : Nat) (q5 : Nat) (rn : Nat) (tv : Int32) (sf : Nat → Int32) (lf : Nat → Int32) (mn : Int32) (rf : Nat → Int32) (nf : Nat → Int32) (ct : Int32) (il : Int32) (gf : Nat → Int32) (Vw : Nat → List Int32) (w : Nat) (q : Nat) (hW : MW Vw sf lf) (hrn : rn ∈ rnS) (hr6 : rn ≤ 6) (hok : ∀ w, w < 2 → okL rn (Vw w)) (hw : w < 2) (hq : q < 3) : Met l yX2_handleTold wsX2_handleTold mt_X2_handleTold_rm (va_Pc [.ref y0, .int (nI w), .int (nI q)] (gB (dC, dI) [(cA, .int)] [(y0, .inr (2, [.int tv, .int (nI rn), .ref q1, .ref q2, .int mn, .ref q3, .ref q4, .int ct, .int il, .ref q5])), (q1, .inl (cA, (2, .inl sf))), (q2, .inl (cA, (60, .inl lf))), (q3, .inl (cA, (320, .inl rf))), (q4, .inl (cA, (320, .inl nf))), (q5, .inl (cA, (6, .inl gf)))] sz)) (gM (dC, dI) (some (.int (haL (Vw w) q))) (fun u : (Nat → Int32) => True) (fun u : (Nat → Int32) => [(y0, .inr (2, [.int tv, .int (nI rn), .ref q1, .ref q2, .int (nI ((Vw w).length)), .ref q3, .ref q4, .int ct, .int il, .ref q5])), (q1, .inl (cA, (2, .inl sf))), (q2, .inl (cA, (60, .inl lf))), (q3, .inl (cA, (320, .inl u))), (q4, .inl (cA, (320, .inl nf))), (q5, .inl (cA, (6, .inl gf)))]) (va_A [(y0, .inr (2, [.int tv, .int (nI rn), .ref q1, .ref q2, .int mn, .ref q3, .ref q4, .int ct, .int il, .ref q5])), (q1, .inl (cA, (2, .inl sf))), (q2, .inl (cA, (60, .inl lf))), (q3, .inl (cA, (320, .inl rf))), (q4, .inl (cA, (320, .inl nf))), (q5, .inl (cA, (6, .inl gf)))] sz)) 0 0 (va_A [(y0, .inr (2, [.int tv, .int (nI rn), .ref q1, .ref q2, .int mn, .ref q3, .ref q4, .int ct, .int il, .ref q5])), (q1, .inl (cA, (2, .inl sf))), (q2, .inl (cA, (60, .inl lf))), (q3, .inl (cA, (320, .inl rf))), (q4, .inl (cA, (320, .inl nf))), (q5, .inl (cA, (6, .inl gf)))] sz) := by
  refine g_ofM (cc := cX2_handleTold) (maxL := 4) (ret := (some .int)) (by decide) rfl (Nat.le_of_ble_eq_true rfl) (fun p e s m below meth c ls hx hb hr hml hts hown hlocks hP hK hl hin A hA hD hS => ?_)
  have hl : lv_has ls 4 [(0, .ref y0), (1, .int (nI w)), (2, .int (nI q))] := hl
  have hWl := (hW w hw).2.1
  refine lv_aload_n hx hb dX2_handleTold_0 rfl (lv_at hl 0 rfl) ?_
  refine lv_iload_n hx hb dX2_handleTold_1 rfl (lv_at hl 1 rfl) ?_
  refine g_MVv (As := [.int (nI w)]) (rest := []) ⟨hx, hb, hml, hown, hts⟩ (mt_X2_load l dC dI cA s.heap.size y0 q1 q2 q3 q4 q5 rn tv sf lf mn rf nf ct il gf Vw w hW hw) (cwV 1 hts gX2_handleTold_X2_load rfl rfl rfl hdX2_load ⟨Nat.le_of_ble_eq_true rfl, Nat.le_of_ble_eq_true rfl⟩) hP hK hD hS hA [0, 1, 2, 3, 4, 5] (by decide) rfl (va_recv hK hP (ci := 2) (q0 := 0) rfl rfl) rfl hl.1 rfl (Nat.le_of_ble_eq_true rfl) dX2_handleTold_2 (Nat.zero_le _) (Nat.zero_le _) (fun u9 => [(y0, .inr (2, [.int tv, .int (nI rn), .ref q1, .ref q2, .int (nI ((Vw w).length)), .ref q3, .ref q4, .int ct, .int il, .ref q5])), (q1, .inl (cA, (2, .inl sf))), (q2, .inl (cA, (60, .inl lf))), (q3, .inl (cA, (320, .inl u9))), (q4, .inl (cA, (320, .inl nf))), (q5, .inl (cA, (6, .inl gf)))]) (fun _ => rfl) (fun _ => rfl) (fun u H locs hw_2 hP hD hS => ?_)
  obtain ⟨r1_1, rfl⟩ : ∃ z, z = u := ⟨_, rfl⟩
  have hw_2 : MR (Vw w) r1_1 := hw_2
  have hP : va_P (dC, dI) vwCl [(y0, .inr (2, [.int tv, .int (nI rn), .ref q1, .ref q2, .int (nI ((Vw w).length)), .ref q3, .ref q4, .int ct, .int il, .ref q5])), (q1, .inl (cA, (2, .inl sf))), (q2, .inl (cA, (60, .inl lf))), (q3, .inl (cA, (320, .inl r1_1))), (q4, .inl (cA, (320, .inl nf))), (q5, .inl (cA, (6, .inl gf)))] H := hP
  have hD : va_D A [(y0, .inr (2, [.int tv, .int (nI rn), .ref q1, .ref q2, .int (nI ((Vw w).length)), .ref q3, .ref q4, .int ct, .int il, .ref q5])), (q1, .inl (cA, (2, .inl sf))), (q2, .inl (cA, (60, .inl lf))), (q3, .inl (cA, (320, .inl r1_1))), (q4, .inl (cA, (320, .inl nf))), (q5, .inl (cA, (6, .inl gf)))] := hD
  refine lv_aload_n hx hb dX2_handleTold_5 rfl (lv_at hl 0 rfl) ?_
  refine g_RVi (As := []) (rest := []) ⟨hx, hb, hml, hown, hts⟩ (mt_X2_ends l dC dI cA H.size y0 q1 q2 q3 q4 q5 rn tv sf lf r1_1 nf ct il gf (Vw w) hw_2 hrn (hok w hw)) (cwV 0 hts gX2_handleTold_X2_ends rfl rfl rfl hdX2_ends ⟨Nat.le_of_ble_eq_true rfl, Nat.le_of_ble_eq_true rfl⟩) hP hK hD [0, 1, 2, 3, 4, 5] (by decide) rfl (va_recv hK hP (ci := 2) (q0 := 0) rfl rfl) rfl hl.1 rfl (Nat.le_of_ble_eq_true rfl) dX2_handleTold_6 (Nat.zero_le _) (Nat.zero_le _) ?_
  refine lv_istore_n (lv' := [(3, .int (oiI (enF (Vw w) 0))), (0, .ref y0), (1, .int (nI w)), (2, .int (nI q))]) hx hb dX2_handleTold_9 rfl hl (by decide) rfl (fun ls hl => ?_)
  refine lv_iload_n hx hb dX2_handleTold_10 rfl (lv_at hl 0 rfl) ?_
  refine lv_iconst (v := (-1)) hx hb dX2_handleTold_11 (by decide) ?_
  refine lv_icmp_ne (tgt := 26) hx hb dX2_handleTold_12 (by decide) (fun c12 => ?_) (fun c12 => ?_)
  · obtain ⟨e9, c12⟩ := oiI_yes c12
    obtain ⟨-, he2, ⟨b9, hb9⟩, -⟩ := enF_spec c12
    have hbl := bg_lt hb9
    rw [show oiI (enF (Vw w) 0) = nI e9 from by rw [c12]; rfl] at hl
    obtain rfl | rfl | rfl : q = 0 ∨ q = 1 ∨ q = 2 := by omega
    · refine lv_iload_n hx hb dX2_handleTold_26 rfl (lv_at hl 3 rfl) ?_
      refine lv_if_ne (tgt := 38) hx hb dX2_handleTold_27 (by decide) (fun c27 => ?_) (fun c27 => ?_)
      · exact absurd (g_neT 0 0 (by omega) (by omega) c27) (by omega)
      · have c27 : 0 = 0 := g_neF 0 0 (by omega) (by omega) c27
        refine lv_aload_n hx hb dX2_handleTold_30 rfl (lv_at hl 1 rfl) ?_
        refine lv_iload_n hx hb dX2_handleTold_31 rfl (lv_at hl 0 rfl) ?_
        refine g_RVi (As := [.int (nI e9)]) (rest := []) ⟨hx, hb, hml, hown, hts⟩ (mt_X2_begins l dC dI cA H.size y0 q1 q2 q3 q4 q5 rn tv sf lf r1_1 nf ct il gf (Vw w) e9 hw_2 hrn (hok w hw) (by first | omega | (simp only [List.length_append, List.length_cons, List.length_nil, List.length_set, turnL_len]; omega))) (cwV 1 hts gX2_handleTold_X2_begins rfl rfl rfl hdX2_begins ⟨Nat.le_of_ble_eq_true rfl, Nat.le_of_ble_eq_true rfl⟩) hP hK hD [0, 1, 2, 3, 4, 5] (by decide) rfl (va_recv hK hP (ci := 2) (q0 := 0) rfl rfl) rfl hl.1 rfl (Nat.le_of_ble_eq_true rfl) dX2_handleTold_32 (Nat.zero_le _) (Nat.zero_le _) ?_
        rw [show oiI (bg (Vw w) e9) = nI b9 from by rw [hb9]; rfl]
        refine lv_goto (tgt := 52) hx hb dX2_handleTold_35 (by decide) ?_
        exact g_endMi hx hb hr hlocks hP hS dX2_handleTold_52 r1_1 rfl (by unfold haL; rw [c12]; show _ = (match bg (Vw w) e9 with | none => _ | some b => _); rw [hb9]; rfl) trivial
    · refine lv_iload_n hx hb dX2_handleTold_26 rfl (lv_at hl 3 rfl) ?_
      refine lv_if_ne (tgt := 38) hx hb dX2_handleTold_27 (by decide) (fun c27 => ?_) (fun c27 => ?_)
      · have c27 : ¬ 1 = 0 := g_neT 1 0 (by omega) (by omega) c27
        refine lv_iload_n hx hb dX2_handleTold_38 rfl (lv_at hl 3 rfl) ?_
        refine lv_iconst (v := 1) hx hb dX2_handleTold_39 (by decide) ?_
        refine lv_icmp_ne (tgt := 47) hx hb dX2_handleTold_40 (by decide) (fun c40 => ?_) (fun c40 => ?_)
        · exact absurd (g_neT 1 1 (by omega) (by omega) c40) (by omega)
        · have c40 : 1 = 1 := g_neF 1 1 (by omega) (by omega) c40
          refine lv_iload_n hx hb dX2_handleTold_43 rfl (lv_at hl 0 rfl) ?_
          refine lv_goto (tgt := 52) hx hb dX2_handleTold_44 (by decide) ?_
          exact g_endMi hx hb hr hlocks hP hS dX2_handleTold_52 r1_1 rfl (by unfold haL; rw [c12]; show _ = (match bg (Vw w) e9 with | none => _ | some b => _); rw [hb9]; rfl) trivial
      · exact absurd (g_neF 1 0 (by omega) (by omega) c27) (by omega)
    · refine lv_iload_n hx hb dX2_handleTold_26 rfl (lv_at hl 3 rfl) ?_
      refine lv_if_ne (tgt := 38) hx hb dX2_handleTold_27 (by decide) (fun c27 => ?_) (fun c27 => ?_)
      · have c27 : ¬ 2 = 0 := g_neT 2 0 (by omega) (by omega) c27
        refine lv_iload_n hx hb dX2_handleTold_38 rfl (lv_at hl 3 rfl) ?_
        refine lv_iconst (v := 1) hx hb dX2_handleTold_39 (by decide) ?_
        refine lv_icmp_ne (tgt := 47) hx hb dX2_handleTold_40 (by decide) (fun c40 => ?_) (fun c40 => ?_)
        · have c40 : ¬ 2 = 1 := g_neT 2 1 (by omega) (by omega) c40
          refine lv_aload_n hx hb dX2_handleTold_47 rfl (lv_at hl 1 rfl) ?_
          refine lv_iload_n hx hb dX2_handleTold_48 rfl (lv_at hl 0 rfl) ?_
          refine g_RVi (As := [.int (nI e9)]) (rest := []) ⟨hx, hb, hml, hown, hts⟩ (mt_X2_more l dC dI cA H.size y0 q1 q2 q3 q4 q5 rn tv sf lf r1_1 nf ct il gf (Vw w) b9 e9 hw_2 hrn (hok w hw) (by first | omega | (simp only [List.length_append, List.length_cons, List.length_nil, List.length_set, turnL_len]; omega)) hb9) (cwV 1 hts gX2_handleTold_X2_more rfl rfl rfl hdX2_more ⟨Nat.le_of_ble_eq_true rfl, Nat.le_of_ble_eq_true rfl⟩) hP hK hD [0, 1, 2, 3, 4, 5] (by decide) rfl (va_recv hK hP (ci := 2) (q0 := 0) rfl rfl) rfl hl.1 rfl (Nat.le_of_ble_eq_true rfl) dX2_handleTold_49 (Nat.zero_le _) (Nat.zero_le _) ?_
          exact g_endMi hx hb hr hlocks hP hS dX2_handleTold_52 r1_1 rfl (by unfold haL; rw [c12]; show _ = (match bg (Vw w) e9 with | none => _ | some b => _); rw [hb9]; rfl) trivial
        · exact absurd (g_neF 2 1 (by omega) (by omega) c40) (by omega)
      · exact absurd (g_neF 2 0 (by omega) (by omega) c27) (by omega)
  · have c12 : enF (Vw w) 0 = none := oiI_no (enF_small (by omega)) c12
    refine lv_iload_n hx hb dX2_handleTold_15 rfl (lv_at hl 3 rfl) ?_
    refine lv_iconst (v := 2) hx hb dX2_handleTold_16 (by decide) ?_
    refine lv_icmp_ne (tgt := 24) hx hb dX2_handleTold_17 (by decide) (fun c17 => ?_) (fun c17 => ?_)
    · have c17 : ¬ q = 2 := g_neT q 2 (by omega) (by omega) c17
      refine lv_iconst (v := (-1)) hx hb dX2_handleTold_24 (by decide) ?_
      exact g_endMi hx hb hr hlocks hP hS dX2_handleTold_25 r1_1 rfl (by unfold haL; rw [c12]; first | (rw [if_pos (by omega)]; done) | (rw [if_neg (by omega)]; done)) trivial
    · have c17 : q = 2 := g_neF q 2 (by omega) (by omega) c17
      refine lv_iconst (v := 0) hx hb dX2_handleTold_20 (by decide) ?_
      refine lv_goto (tgt := 25) hx hb dX2_handleTold_21 (by decide) ?_
      exact g_endMi hx hb hr hlocks hP hS dX2_handleTold_25 r1_1 rfl (by unfold haL; rw [c12]; first | (rw [if_pos (by omega)]; done) | (rw [if_neg (by omega)]; done)) trivial

abbrev mt_X2_plainTold_rm : Room := { frames := 4, cells := 0, slots := 0, locals := 108 }
set_option maxHeartbeats 4000000 in
set_option maxRecDepth 100000 in
theorem mt_X2_plainTold (l : Launch) (dC : Nat → ClassId) (dI : Nat → Nat → Nat) (cA : ClassId) (sz : Nat) (y0 : Nat) (q1 : Nat) (q2 : Nat) (q3 : Nat) (q4 : Nat) (q5 : Nat) (rn : Nat) (tv : Int32) (sf : Nat → Int32) (lf : Nat → Int32) (mn : Int32) (rf : Nat → Int32) (nf : Nat → Int32) (ct : Int32) (il : Int32) (gf : Nat → Int32) (Vw : Nat → List Int32) (w : Nat) (q : Nat) (hW : MW Vw sf lf) (hrn : rn ∈ rnS) (hr6 : rn ≤ 6) (hok : ∀ w, w < 2 → okL rn (Vw w)) (hw : w < 2) (hq : q < 4) : Met l yX2_plainTold wsX2_plainTold mt_X2_plainTold_rm (va_Pc [.ref y0, .int (nI w), .int (nI q)] (gB (dC, dI) [(cA, .int)] [(y0, .inr (2, [.int tv, .int (nI rn), .ref q1, .ref q2, .int mn, .ref q3, .ref q4, .int ct, .int il, .ref q5])), (q1, .inl (cA, (2, .inl sf))), (q2, .inl (cA, (60, .inl lf))), (q3, .inl (cA, (320, .inl rf))), (q4, .inl (cA, (320, .inl nf))), (q5, .inl (cA, (6, .inl gf)))] sz)) (gM (dC, dI) (some (.int (paI (plain (Vw w)) q))) (fun u : Int32 × (Nat → Int32) × (Nat → Int32) × Int32 × Int32 => True) (fun u : Int32 × (Nat → Int32) × (Nat → Int32) × Int32 × Int32 => [(y0, .inr (2, [.int tv, .int (nI rn), .ref q1, .ref q2, .int u.1, .ref q3, .ref q4, .int u.2.2.2.1, .int u.2.2.2.2, .ref q5])), (q1, .inl (cA, (2, .inl sf))), (q2, .inl (cA, (60, .inl lf))), (q3, .inl (cA, (320, .inl u.2.1))), (q4, .inl (cA, (320, .inl u.2.2.1))), (q5, .inl (cA, (6, .inl gf)))]) (va_A [(y0, .inr (2, [.int tv, .int (nI rn), .ref q1, .ref q2, .int mn, .ref q3, .ref q4, .int ct, .int il, .ref q5])), (q1, .inl (cA, (2, .inl sf))), (q2, .inl (cA, (60, .inl lf))), (q3, .inl (cA, (320, .inl rf))), (q4, .inl (cA, (320, .inl nf))), (q5, .inl (cA, (6, .inl gf)))] sz)) 0 0 (va_A [(y0, .inr (2, [.int tv, .int (nI rn), .ref q1, .ref q2, .int mn, .ref q3, .ref q4, .int ct, .int il, .ref q5])), (q1, .inl (cA, (2, .inl sf))), (q2, .inl (cA, (60, .inl lf))), (q3, .inl (cA, (320, .inl rf))), (q4, .inl (cA, (320, .inl nf))), (q5, .inl (cA, (6, .inl gf)))] sz) := by
  refine g_ofM (cc := cX2_plainTold) (maxL := 3) (ret := (some .int)) (by decide) rfl (Nat.le_of_ble_eq_true rfl) (fun p e s m below meth c ls hx hb hr hml hts hown hlocks hP hK hl hin A hA hD hS => ?_)
  have hl : lv_has ls 3 [(0, .ref y0), (1, .int (nI w)), (2, .int (nI q))] := hl
  have hWl := (hW w hw).2.1
  refine lv_aload_n hx hb dX2_plainTold_0 rfl (lv_at hl 0 rfl) ?_
  refine lv_iload_n hx hb dX2_plainTold_1 rfl (lv_at hl 1 rfl) ?_
  refine g_MVv (As := [.int (nI w)]) (rest := []) ⟨hx, hb, hml, hown, hts⟩ (mt_X2_load l dC dI cA s.heap.size y0 q1 q2 q3 q4 q5 rn tv sf lf mn rf nf ct il gf Vw w hW hw) (cwV 1 hts gX2_plainTold_X2_load rfl rfl rfl hdX2_load ⟨Nat.le_of_ble_eq_true rfl, Nat.le_of_ble_eq_true rfl⟩) hP hK hD hS hA [0, 1, 2, 3, 4, 5] (by decide) rfl (va_recv hK hP (ci := 2) (q0 := 0) rfl rfl) rfl hl.1 rfl (Nat.le_of_ble_eq_true rfl) dX2_plainTold_2 (Nat.zero_le _) (Nat.zero_le _) (fun u9 => [(y0, .inr (2, [.int tv, .int (nI rn), .ref q1, .ref q2, .int (nI ((Vw w).length)), .ref q3, .ref q4, .int ct, .int il, .ref q5])), (q1, .inl (cA, (2, .inl sf))), (q2, .inl (cA, (60, .inl lf))), (q3, .inl (cA, (320, .inl u9))), (q4, .inl (cA, (320, .inl nf))), (q5, .inl (cA, (6, .inl gf)))]) (fun _ => rfl) (fun _ => rfl) (fun u H locs hw_2 hP hD hS => ?_)
  obtain ⟨r1_1, rfl⟩ : ∃ z, z = u := ⟨_, rfl⟩
  have hw_2 : MR (Vw w) r1_1 := hw_2
  have hP : va_P (dC, dI) vwCl [(y0, .inr (2, [.int tv, .int (nI rn), .ref q1, .ref q2, .int (nI ((Vw w).length)), .ref q3, .ref q4, .int ct, .int il, .ref q5])), (q1, .inl (cA, (2, .inl sf))), (q2, .inl (cA, (60, .inl lf))), (q3, .inl (cA, (320, .inl r1_1))), (q4, .inl (cA, (320, .inl nf))), (q5, .inl (cA, (6, .inl gf)))] H := hP
  have hD : va_D A [(y0, .inr (2, [.int tv, .int (nI rn), .ref q1, .ref q2, .int (nI ((Vw w).length)), .ref q3, .ref q4, .int ct, .int il, .ref q5])), (q1, .inl (cA, (2, .inl sf))), (q2, .inl (cA, (60, .inl lf))), (q3, .inl (cA, (320, .inl r1_1))), (q4, .inl (cA, (320, .inl nf))), (q5, .inl (cA, (6, .inl gf)))] := hD
  refine lv_aload_n hx hb dX2_plainTold_5 rfl (lv_at hl 0 rfl) ?_
  refine g_MVv (As := []) (rest := []) ⟨hx, hb, hml, hown, hts⟩ (mt_X2_makePlain l dC dI cA H.size y0 q1 q2 q3 q4 q5 rn tv sf lf r1_1 nf ct il gf (Vw w) hw_2 hrn (hok w hw) (by first | omega | (simp only [List.length_append, List.length_cons, List.length_nil, List.length_set, turnL_len]; omega))) (cwV 0 hts gX2_plainTold_X2_makePlain rfl rfl rfl hdX2_makePlain ⟨Nat.le_of_ble_eq_true rfl, Nat.le_of_ble_eq_true rfl⟩) hP hK hD hS hA [0, 1, 2, 3, 4, 5] (by decide) rfl (va_recv hK hP (ci := 2) (q0 := 0) rfl rfl) rfl hl.1 rfl (Nat.le_of_ble_eq_true rfl) dX2_plainTold_6 (Nat.zero_le _) (Nat.zero_le _) (fun u9 => [(y0, .inr (2, [.int tv, .int (nI rn), .ref q1, .ref q2, .int (nI u9.1.length), .ref q3, .ref q4, .int u9.2.2.2.1, .int u9.2.2.2.2, .ref q5])), (q1, .inl (cA, (2, .inl sf))), (q2, .inl (cA, (60, .inl lf))), (q3, .inl (cA, (320, .inl u9.2.1))), (q4, .inl (cA, (320, .inl u9.2.2.1))), (q5, .inl (cA, (6, .inl gf)))]) (fun _ => rfl) (fun _ => rfl) (fun u H locs hw_8 hP hD hS => ?_)
  obtain ⟨Lt_3, r1_4, n1_5, c1_6, i1_7⟩ := u
  have hw_8 : MR Lt_3 r1_4 ∧ mpO (plain (Vw w)) i1_7 c1_6 Lt_3 ∧ okL rn Lt_3 := hw_8
  have hP : va_P (dC, dI) vwCl [(y0, .inr (2, [.int tv, .int (nI rn), .ref q1, .ref q2, .int (nI Lt_3.length), .ref q3, .ref q4, .int c1_6, .int i1_7, .ref q5])), (q1, .inl (cA, (2, .inl sf))), (q2, .inl (cA, (60, .inl lf))), (q3, .inl (cA, (320, .inl r1_4))), (q4, .inl (cA, (320, .inl n1_5))), (q5, .inl (cA, (6, .inl gf)))] H := hP
  have hD : va_D A [(y0, .inr (2, [.int tv, .int (nI rn), .ref q1, .ref q2, .int (nI Lt_3.length), .ref q3, .ref q4, .int c1_6, .int i1_7, .ref q5])), (q1, .inl (cA, (2, .inl sf))), (q2, .inl (cA, (60, .inl lf))), (q3, .inl (cA, (320, .inl r1_4))), (q4, .inl (cA, (320, .inl n1_5))), (q5, .inl (cA, (6, .inl gf)))] := hD
  refine lv_aload_n hx hb dX2_plainTold_9 rfl (lv_at hl 0 rfl) ?_
  refine va_get (D := (dC, dI)) (ci := 2) (v := .int i1_7) (C := RX2) (T := TX2) (N := 10) hx hb hts (in_X2_plainTold_2) hown hK hP 0 rfl rfl 8 (by decide) (hts (.fieldLink RX2 65 "BraidWordsModel" "isLost" "Z") (List.mem_of_getElem? (i := 1) rfl)) (fun _ h9 => h9) rfl dX2_plainTold_10 ?_
  refine lv_if_eq (tgt := 19) hx hb dX2_plainTold_13 (by decide) (fun c13 => ?_) (fun c13 => ?_)
  have hlen9 := hw_8.1.1
  · obtain ⟨z, c13, hz1, hz2⟩ := mpO_0 hw_8.2.1 c13
    obtain rfl | rfl | rfl | rfl : q = 0 ∨ q = 1 ∨ q = 2 ∨ q = 3 := by omega
    · refine lv_iload_n hx hb dX2_plainTold_19 rfl (lv_at hl 2 rfl) ?_
      refine lv_if_ne (tgt := 30) hx hb dX2_plainTold_20 (by decide) (fun c20 => ?_) (fun c20 => ?_)
      · exact absurd (g_neT 0 0 (by omega) (by omega) c20) (by omega)
      · have c20 : 0 = 0 := g_neF 0 0 (by omega) (by omega) c20
        refine lv_aload_n hx hb dX2_plainTold_23 rfl (lv_at hl 0 rfl) ?_
        refine va_get (D := (dC, dI)) (ci := 2) (v := .int (nI Lt_3.length)) (C := RX2) (T := TX2) (N := 10) hx hb hts (in_X2_plainTold_2) hown hK hP 0 rfl rfl 4 (by decide) (hts (.fieldLink RX2 36 "BraidWordsModel" "many" "I") (List.mem_of_getElem? (i := 2) rfl)) (fun _ h9 => h9) rfl dX2_plainTold_24 ?_
        refine lv_goto (tgt := 58) hx hb dX2_plainTold_27 (by decide) ?_
        exact g_endMi hx hb hr hlocks hP hS dX2_plainTold_58 (nI Lt_3.length, r1_4, n1_5, c1_6, i1_7) rfl (by rw [c13]; first | rfl | (show _ = nI z.2.length; rw [← hz2]) | (show _ = nI z.1; rw [hz1]) | (show _ = sgI (loL z.2 (z.2.length - 1)); rw [← hz2]) | (rw [leS_of hrn hw_8.2.2]; show _ = abI (loL z.2 (z.2.length - 1)); rw [← hz2]) | (show _ = (if z.2.length = 0 then 1 else 0); rw [← hz2]; first | (rw [if_pos (by omega)]; done) | (rw [if_neg (by omega)]; done))) trivial
    · refine lv_iload_n hx hb dX2_plainTold_19 rfl (lv_at hl 2 rfl) ?_
      refine lv_if_ne (tgt := 30) hx hb dX2_plainTold_20 (by decide) (fun c20 => ?_) (fun c20 => ?_)
      · have c20 : ¬ 1 = 0 := g_neT 1 0 (by omega) (by omega) c20
        refine lv_iload_n hx hb dX2_plainTold_30 rfl (lv_at hl 2 rfl) ?_
        refine lv_iconst (v := 1) hx hb dX2_plainTold_31 (by decide) ?_
        refine lv_icmp_ne (tgt := 42) hx hb dX2_plainTold_32 (by decide) (fun c32 => ?_) (fun c32 => ?_)
        · exact absurd (g_neT 1 1 (by omega) (by omega) c32) (by omega)
        · have c32 : 1 = 1 := g_neF 1 1 (by omega) (by omega) c32
          refine lv_aload_n hx hb dX2_plainTold_35 rfl (lv_at hl 0 rfl) ?_
          refine va_get (D := (dC, dI)) (ci := 2) (v := .int c1_6) (C := RX2) (T := TX2) (N := 10) hx hb hts (in_X2_plainTold_2) hown hK hP 0 rfl rfl 7 (by decide) (hts (.fieldLink RX2 62 "BraidWordsModel" "cuts" "I") (List.mem_of_getElem? (i := 3) rfl)) (fun _ h9 => h9) rfl dX2_plainTold_36 ?_
          refine lv_goto (tgt := 58) hx hb dX2_plainTold_39 (by decide) ?_
          exact g_endMi hx hb hr hlocks hP hS dX2_plainTold_58 (nI Lt_3.length, r1_4, n1_5, c1_6, i1_7) rfl (by rw [c13]; first | rfl | (show _ = nI z.2.length; rw [← hz2]) | (show _ = nI z.1; rw [hz1]) | (show _ = sgI (loL z.2 (z.2.length - 1)); rw [← hz2]) | (rw [leS_of hrn hw_8.2.2]; show _ = abI (loL z.2 (z.2.length - 1)); rw [← hz2]) | (show _ = (if z.2.length = 0 then 1 else 0); rw [← hz2]; first | (rw [if_pos (by omega)]; done) | (rw [if_neg (by omega)]; done))) trivial
      · exact absurd (g_neF 1 0 (by omega) (by omega) c20) (by omega)
    · refine lv_iload_n hx hb dX2_plainTold_19 rfl (lv_at hl 2 rfl) ?_
      refine lv_if_ne (tgt := 30) hx hb dX2_plainTold_20 (by decide) (fun c20 => ?_) (fun c20 => ?_)
      · have c20 : ¬ 2 = 0 := g_neT 2 0 (by omega) (by omega) c20
        refine lv_iload_n hx hb dX2_plainTold_30 rfl (lv_at hl 2 rfl) ?_
        refine lv_iconst (v := 1) hx hb dX2_plainTold_31 (by decide) ?_
        refine lv_icmp_ne (tgt := 42) hx hb dX2_plainTold_32 (by decide) (fun c32 => ?_) (fun c32 => ?_)
        · have c32 : ¬ 2 = 1 := g_neT 2 1 (by omega) (by omega) c32
          refine lv_iload_n hx hb dX2_plainTold_42 rfl (lv_at hl 2 rfl) ?_
          refine lv_iconst (v := 2) hx hb dX2_plainTold_43 (by decide) ?_
          refine lv_icmp_ne (tgt := 54) hx hb dX2_plainTold_44 (by decide) (fun c44 => ?_) (fun c44 => ?_)
          · exact absurd (g_neT 2 2 (by omega) (by omega) c44) (by omega)
          · have c44 : 2 = 2 := g_neF 2 2 (by omega) (by omega) c44
            refine lv_aload_n hx hb dX2_plainTold_47 rfl (lv_at hl 0 rfl) ?_
            refine g_RVi (As := []) (rest := []) ⟨hx, hb, hml, hown, hts⟩ (mt_X2_sign l dC dI cA H.size y0 q1 q2 q3 q4 q5 rn tv sf lf r1_4 n1_5 c1_6 i1_7 gf Lt_3 hw_8.1 hrn hw_8.2.2) (cwV 0 hts gX2_plainTold_X2_sign rfl rfl rfl hdX2_sign ⟨Nat.le_of_ble_eq_true rfl, Nat.le_of_ble_eq_true rfl⟩) hP hK hD [0, 1, 2, 3, 4, 5] (by decide) rfl (va_recv hK hP (ci := 2) (q0 := 0) rfl rfl) rfl hl.1 rfl (Nat.le_of_ble_eq_true rfl) dX2_plainTold_48 (Nat.zero_le _) (Nat.zero_le _) ?_
            refine lv_goto (tgt := 58) hx hb dX2_plainTold_51 (by decide) ?_
            exact g_endMi hx hb hr hlocks hP hS dX2_plainTold_58 (nI Lt_3.length, r1_4, n1_5, c1_6, i1_7) rfl (by rw [c13]; first | rfl | (show _ = nI z.2.length; rw [← hz2]) | (show _ = nI z.1; rw [hz1]) | (show _ = sgI (loL z.2 (z.2.length - 1)); rw [← hz2]) | (rw [leS_of hrn hw_8.2.2]; show _ = abI (loL z.2 (z.2.length - 1)); rw [← hz2]) | (show _ = (if z.2.length = 0 then 1 else 0); rw [← hz2]; first | (rw [if_pos (by omega)]; done) | (rw [if_neg (by omega)]; done))) trivial
        · exact absurd (g_neF 2 1 (by omega) (by omega) c32) (by omega)
      · exact absurd (g_neF 2 0 (by omega) (by omega) c20) (by omega)
    · refine lv_iload_n hx hb dX2_plainTold_19 rfl (lv_at hl 2 rfl) ?_
      refine lv_if_ne (tgt := 30) hx hb dX2_plainTold_20 (by decide) (fun c20 => ?_) (fun c20 => ?_)
      · have c20 : ¬ 3 = 0 := g_neT 3 0 (by omega) (by omega) c20
        refine lv_iload_n hx hb dX2_plainTold_30 rfl (lv_at hl 2 rfl) ?_
        refine lv_iconst (v := 1) hx hb dX2_plainTold_31 (by decide) ?_
        refine lv_icmp_ne (tgt := 42) hx hb dX2_plainTold_32 (by decide) (fun c32 => ?_) (fun c32 => ?_)
        · have c32 : ¬ 3 = 1 := g_neT 3 1 (by omega) (by omega) c32
          refine lv_iload_n hx hb dX2_plainTold_42 rfl (lv_at hl 2 rfl) ?_
          refine lv_iconst (v := 2) hx hb dX2_plainTold_43 (by decide) ?_
          refine lv_icmp_ne (tgt := 54) hx hb dX2_plainTold_44 (by decide) (fun c44 => ?_) (fun c44 => ?_)
          · have c44 : ¬ 3 = 2 := g_neT 3 2 (by omega) (by omega) c44
            refine lv_aload_n hx hb dX2_plainTold_54 rfl (lv_at hl 0 rfl) ?_
            refine g_RVi (As := []) (rest := []) ⟨hx, hb, hml, hown, hts⟩ (mt_X2_least l dC dI cA H.size y0 q1 q2 q3 q4 q5 rn tv sf lf r1_4 n1_5 c1_6 i1_7 gf Lt_3 hw_8.1) (cwV 0 hts gX2_plainTold_X2_least rfl rfl rfl hdX2_least ⟨Nat.le_of_ble_eq_true rfl, Nat.le_of_ble_eq_true rfl⟩) hP hK hD [0, 1, 2, 3, 4, 5] (by decide) rfl (va_recv hK hP (ci := 2) (q0 := 0) rfl rfl) rfl hl.1 rfl (Nat.le_of_ble_eq_true rfl) dX2_plainTold_55 (Nat.zero_le _) (Nat.zero_le _) ?_
            exact g_endMi hx hb hr hlocks hP hS dX2_plainTold_58 (nI Lt_3.length, r1_4, n1_5, c1_6, i1_7) rfl (by rw [c13]; first | rfl | (show _ = nI z.2.length; rw [← hz2]) | (show _ = nI z.1; rw [hz1]) | (show _ = sgI (loL z.2 (z.2.length - 1)); rw [← hz2]) | (rw [leS_of hrn hw_8.2.2]; show _ = abI (loL z.2 (z.2.length - 1)); rw [← hz2]) | (show _ = (if z.2.length = 0 then 1 else 0); rw [← hz2]; first | (rw [if_pos (by omega)]; done) | (rw [if_neg (by omega)]; done))) trivial
          · exact absurd (g_neF 3 2 (by omega) (by omega) c44) (by omega)
        · exact absurd (g_neF 3 1 (by omega) (by omega) c32) (by omega)
      · exact absurd (g_neF 3 0 (by omega) (by omega) c20) (by omega)
  · have c13 := mpO_1 hw_8.2.1 c13
    refine lv_bipush (v := (-9)) hx hb dX2_plainTold_16 (by decide) ?_
    exact g_endMi hx hb hr hlocks hP hS dX2_plainTold_18 (nI Lt_3.length, r1_4, n1_5, c1_6, i1_7) rfl (by rw [c13]; first | rfl | (show _ = nI z.2.length; rw [← hz2]) | (show _ = nI z.1; rw [hz1]) | (show _ = sgI (loL z.2 (z.2.length - 1)); rw [← hz2]) | (rw [leS_of hrn hw_8.2.2]; show _ = abI (loL z.2 (z.2.length - 1)); rw [← hz2]) | (show _ = (if z.2.length = 0 then 1 else 0); rw [← hz2]; first | (rw [if_pos (by omega)]; done) | (rw [if_neg (by omega)]; done))) trivial

abbrev mt_X2_sameTold_rm : Room := { frames := 4, cells := 0, slots := 0, locals := 108 }
set_option maxHeartbeats 4000000 in
set_option maxRecDepth 100000 in
theorem mt_X2_sameTold (l : Launch) (dC : Nat → ClassId) (dI : Nat → Nat → Nat) (cA : ClassId) (sz : Nat) (y0 : Nat) (q1 : Nat) (q2 : Nat) (q3 : Nat) (q4 : Nat) (q5 : Nat) (rn : Nat) (tv : Int32) (sf : Nat → Int32) (lf : Nat → Int32) (mn : Int32) (rf : Nat → Int32) (nf : Nat → Int32) (ct : Int32) (il : Int32) (gf : Nat → Int32) (Vw : Nat → List Int32) (hW : MW Vw sf lf) (hrn : rn ∈ rnS) (hr6 : rn ≤ 6) (hok : ∀ w, w < 2 → okL rn (Vw w)) : Met l yX2_sameTold wsX2_sameTold mt_X2_sameTold_rm (va_Pc [.ref y0] (gB (dC, dI) [(cA, .int)] [(y0, .inr (2, [.int tv, .int (nI rn), .ref q1, .ref q2, .int mn, .ref q3, .ref q4, .int ct, .int il, .ref q5])), (q1, .inl (cA, (2, .inl sf))), (q2, .inl (cA, (60, .inl lf))), (q3, .inl (cA, (320, .inl rf))), (q4, .inl (cA, (320, .inl nf))), (q5, .inl (cA, (6, .inl gf)))] sz)) (gM (dC, dI) (some (.int (saI (plain (turnL (Vw 0) ++ Vw 1))))) (fun u : Int32 × (Nat → Int32) × (Nat → Int32) × Int32 × Int32 => True) (fun u : Int32 × (Nat → Int32) × (Nat → Int32) × Int32 × Int32 => [(y0, .inr (2, [.int tv, .int (nI rn), .ref q1, .ref q2, .int u.1, .ref q3, .ref q4, .int u.2.2.2.1, .int u.2.2.2.2, .ref q5])), (q1, .inl (cA, (2, .inl sf))), (q2, .inl (cA, (60, .inl lf))), (q3, .inl (cA, (320, .inl u.2.1))), (q4, .inl (cA, (320, .inl u.2.2.1))), (q5, .inl (cA, (6, .inl gf)))]) (va_A [(y0, .inr (2, [.int tv, .int (nI rn), .ref q1, .ref q2, .int mn, .ref q3, .ref q4, .int ct, .int il, .ref q5])), (q1, .inl (cA, (2, .inl sf))), (q2, .inl (cA, (60, .inl lf))), (q3, .inl (cA, (320, .inl rf))), (q4, .inl (cA, (320, .inl nf))), (q5, .inl (cA, (6, .inl gf)))] sz)) 0 0 (va_A [(y0, .inr (2, [.int tv, .int (nI rn), .ref q1, .ref q2, .int mn, .ref q3, .ref q4, .int ct, .int il, .ref q5])), (q1, .inl (cA, (2, .inl sf))), (q2, .inl (cA, (60, .inl lf))), (q3, .inl (cA, (320, .inl rf))), (q4, .inl (cA, (320, .inl nf))), (q5, .inl (cA, (6, .inl gf)))] sz) := by
  refine g_ofM (cc := cX2_sameTold) (maxL := 1) (ret := (some .int)) (by decide) rfl (Nat.le_of_ble_eq_true rfl) (fun p e s m below meth c ls hx hb hr hml hts hown hlocks hP hK hl hin A hA hD hS => ?_)
  have hl : lv_has ls 1 [(0, .ref y0)] := hl
  have hWa := (hW 0 (by omega)).2.1
  have hWb := (hW 1 (by omega)).2.1
  refine lv_aload_n hx hb dX2_sameTold_0 rfl (lv_at hl 0 rfl) ?_
  refine g_MVv (As := []) (rest := []) ⟨hx, hb, hml, hown, hts⟩ (mt_X2_loadBoth l dC dI cA s.heap.size y0 q1 q2 q3 q4 q5 rn tv sf lf mn rf nf ct il gf Vw hW) (cwV 0 hts gX2_sameTold_X2_loadBoth rfl rfl rfl hdX2_loadBoth ⟨Nat.le_of_ble_eq_true rfl, Nat.le_of_ble_eq_true rfl⟩) hP hK hD hS hA [0, 1, 2, 3, 4, 5] (by decide) rfl (va_recv hK hP (ci := 2) (q0 := 0) rfl rfl) rfl hl.1 rfl (Nat.le_of_ble_eq_true rfl) dX2_sameTold_1 (Nat.zero_le _) (Nat.zero_le _) (fun u9 => [(y0, .inr (2, [.int tv, .int (nI rn), .ref q1, .ref q2, .int (nI ((turnL (Vw 0) ++ Vw 1).length)), .ref q3, .ref q4, .int ct, .int il, .ref q5])), (q1, .inl (cA, (2, .inl sf))), (q2, .inl (cA, (60, .inl lf))), (q3, .inl (cA, (320, .inl u9))), (q4, .inl (cA, (320, .inl nf))), (q5, .inl (cA, (6, .inl gf)))]) (fun _ => rfl) (fun _ => rfl) (fun u H locs hw_2 hP hD hS => ?_)
  obtain ⟨r1_1, rfl⟩ : ∃ z, z = u := ⟨_, rfl⟩
  have hw_2 : MR (turnL (Vw 0) ++ Vw 1) r1_1 := hw_2
  have hP : va_P (dC, dI) vwCl [(y0, .inr (2, [.int tv, .int (nI rn), .ref q1, .ref q2, .int (nI ((turnL (Vw 0) ++ Vw 1).length)), .ref q3, .ref q4, .int ct, .int il, .ref q5])), (q1, .inl (cA, (2, .inl sf))), (q2, .inl (cA, (60, .inl lf))), (q3, .inl (cA, (320, .inl r1_1))), (q4, .inl (cA, (320, .inl nf))), (q5, .inl (cA, (6, .inl gf)))] H := hP
  have hD : va_D A [(y0, .inr (2, [.int tv, .int (nI rn), .ref q1, .ref q2, .int (nI ((turnL (Vw 0) ++ Vw 1).length)), .ref q3, .ref q4, .int ct, .int il, .ref q5])), (q1, .inl (cA, (2, .inl sf))), (q2, .inl (cA, (60, .inl lf))), (q3, .inl (cA, (320, .inl r1_1))), (q4, .inl (cA, (320, .inl nf))), (q5, .inl (cA, (6, .inl gf)))] := hD
  refine lv_aload_n hx hb dX2_sameTold_4 rfl (lv_at hl 0 rfl) ?_
  refine g_MVv (As := []) (rest := []) ⟨hx, hb, hml, hown, hts⟩ (mt_X2_makePlain l dC dI cA H.size y0 q1 q2 q3 q4 q5 rn tv sf lf r1_1 nf ct il gf (turnL (Vw 0) ++ Vw 1) hw_2 hrn (okL_app (okL_turn hrn (hok 0 (by omega))) (hok 1 (by omega))) (by rw [List.length_append, turnL_len]; omega)) (cwV 0 hts gX2_sameTold_X2_makePlain rfl rfl rfl hdX2_makePlain ⟨Nat.le_of_ble_eq_true rfl, Nat.le_of_ble_eq_true rfl⟩) hP hK hD hS hA [0, 1, 2, 3, 4, 5] (by decide) rfl (va_recv hK hP (ci := 2) (q0 := 0) rfl rfl) rfl hl.1 rfl (Nat.le_of_ble_eq_true rfl) dX2_sameTold_5 (Nat.zero_le _) (Nat.zero_le _) (fun u9 => [(y0, .inr (2, [.int tv, .int (nI rn), .ref q1, .ref q2, .int (nI u9.1.length), .ref q3, .ref q4, .int u9.2.2.2.1, .int u9.2.2.2.2, .ref q5])), (q1, .inl (cA, (2, .inl sf))), (q2, .inl (cA, (60, .inl lf))), (q3, .inl (cA, (320, .inl u9.2.1))), (q4, .inl (cA, (320, .inl u9.2.2.1))), (q5, .inl (cA, (6, .inl gf)))]) (fun _ => rfl) (fun _ => rfl) (fun u H locs hw_8 hP hD hS => ?_)
  obtain ⟨Lt_3, r1_4, n1_5, c1_6, i1_7⟩ := u
  have hw_8 : MR Lt_3 r1_4 ∧ mpO (plain (turnL (Vw 0) ++ Vw 1)) i1_7 c1_6 Lt_3 ∧ okL rn Lt_3 := hw_8
  have hP : va_P (dC, dI) vwCl [(y0, .inr (2, [.int tv, .int (nI rn), .ref q1, .ref q2, .int (nI Lt_3.length), .ref q3, .ref q4, .int c1_6, .int i1_7, .ref q5])), (q1, .inl (cA, (2, .inl sf))), (q2, .inl (cA, (60, .inl lf))), (q3, .inl (cA, (320, .inl r1_4))), (q4, .inl (cA, (320, .inl n1_5))), (q5, .inl (cA, (6, .inl gf)))] H := hP
  have hD : va_D A [(y0, .inr (2, [.int tv, .int (nI rn), .ref q1, .ref q2, .int (nI Lt_3.length), .ref q3, .ref q4, .int c1_6, .int i1_7, .ref q5])), (q1, .inl (cA, (2, .inl sf))), (q2, .inl (cA, (60, .inl lf))), (q3, .inl (cA, (320, .inl r1_4))), (q4, .inl (cA, (320, .inl n1_5))), (q5, .inl (cA, (6, .inl gf)))] := hD
  refine lv_aload_n hx hb dX2_sameTold_8 rfl (lv_at hl 0 rfl) ?_
  refine va_get (D := (dC, dI)) (ci := 2) (v := .int i1_7) (C := RX2) (T := TX2) (N := 10) hx hb hts (in_X2_sameTold_2) hown hK hP 0 rfl rfl 8 (by decide) (hts (.fieldLink RX2 65 "BraidWordsModel" "isLost" "Z") (List.mem_of_getElem? (i := 1) rfl)) (fun _ h9 => h9) rfl dX2_sameTold_9 ?_
  refine lv_if_eq (tgt := 20) hx hb dX2_sameTold_12 (by decide) (fun c12 => ?_) (fun c12 => ?_)
  have hlen9 := hw_8.1.1
  · obtain ⟨z, c12, hz1, hz2⟩ := mpO_0 hw_8.2.1 c12
    refine lv_aload_n hx hb dX2_sameTold_20 rfl (lv_at hl 0 rfl) ?_
    refine va_get (D := (dC, dI)) (ci := 2) (v := .int (nI Lt_3.length)) (C := RX2) (T := TX2) (N := 10) hx hb hts (in_X2_sameTold_2) hown hK hP 0 rfl rfl 4 (by decide) (hts (.fieldLink RX2 36 "BraidWordsModel" "many" "I") (List.mem_of_getElem? (i := 2) rfl)) (fun _ h9 => h9) rfl dX2_sameTold_21 ?_
    refine lv_if_ne (tgt := 31) hx hb dX2_sameTold_24 (by decide) (fun c24 => ?_) (fun c24 => ?_)
    · have c24 : ¬ Lt_3.length = 0 := g_neT Lt_3.length 0 (by omega) (by omega) c24
      refine lv_iconst (v := 0) hx hb dX2_sameTold_31 (by decide) ?_
      exact g_endMi hx hb hr hlocks hP hS dX2_sameTold_32 (nI Lt_3.length, r1_4, n1_5, c1_6, i1_7) rfl (by rw [c12]; first | rfl | (show _ = nI z.2.length; rw [← hz2]) | (show _ = nI z.1; rw [hz1]) | (show _ = sgI (loL z.2 (z.2.length - 1)); rw [← hz2]) | (rw [leS_of hrn hw_8.2.2]; show _ = abI (loL z.2 (z.2.length - 1)); rw [← hz2]) | (show _ = (if z.2.length = 0 then 1 else 0); rw [← hz2]; first | (rw [if_pos (by omega)]; done) | (rw [if_neg (by omega)]; done))) trivial
    · have c24 : Lt_3.length = 0 := g_neF Lt_3.length 0 (by omega) (by omega) c24
      refine lv_iconst (v := 1) hx hb dX2_sameTold_27 (by decide) ?_
      refine lv_goto (tgt := 32) hx hb dX2_sameTold_28 (by decide) ?_
      exact g_endMi hx hb hr hlocks hP hS dX2_sameTold_32 (nI Lt_3.length, r1_4, n1_5, c1_6, i1_7) rfl (by rw [c12]; first | rfl | (show _ = nI z.2.length; rw [← hz2]) | (show _ = nI z.1; rw [hz1]) | (show _ = sgI (loL z.2 (z.2.length - 1)); rw [← hz2]) | (rw [leS_of hrn hw_8.2.2]; show _ = abI (loL z.2 (z.2.length - 1)); rw [← hz2]) | (show _ = (if z.2.length = 0 then 1 else 0); rw [← hz2]; first | (rw [if_pos (by omega)]; done) | (rw [if_neg (by omega)]; done))) trivial
  · have c12 := mpO_1 hw_8.2.1 c12
    refine lv_bipush (v := (-9)) hx hb dX2_sameTold_15 (by decide) ?_
    refine lv_goto (tgt := 32) hx hb dX2_sameTold_17 (by decide) ?_
    exact g_endMi hx hb hr hlocks hP hS dX2_sameTold_32 (nI Lt_3.length, r1_4, n1_5, c1_6, i1_7) rfl (by rw [c12]; first | rfl | (show _ = nI z.2.length; rw [← hz2]) | (show _ = nI z.1; rw [hz1]) | (show _ = sgI (loL z.2 (z.2.length - 1)); rw [← hz2]) | (rw [leS_of hrn hw_8.2.2]; show _ = abI (loL z.2 (z.2.length - 1)); rw [← hz2]) | (show _ = (if z.2.length = 0 then 1 else 0); rw [← hz2]; first | (rw [if_pos (by omega)]; done) | (rw [if_neg (by omega)]; done))) trivial

abbrev mt_X2_aheadTold_rm : Room := { frames := 4, cells := 0, slots := 0, locals := 108 }
set_option maxHeartbeats 4000000 in
set_option maxRecDepth 100000 in
theorem mt_X2_aheadTold (l : Launch) (dC : Nat → ClassId) (dI : Nat → Nat → Nat) (cA : ClassId) (sz : Nat) (y0 : Nat) (q1 : Nat) (q2 : Nat) (q3 : Nat) (q4 : Nat) (q5 : Nat) (rn : Nat) (tv : Int32) (sf : Nat → Int32) (lf : Nat → Int32) (mn : Int32) (rf : Nat → Int32) (nf : Nat → Int32) (ct : Int32) (il : Int32) (gf : Nat → Int32) (Vw : Nat → List Int32) (hW : MW Vw sf lf) (hrn : rn ∈ rnS) (hr6 : rn ≤ 6) (hok : ∀ w, w < 2 → okL rn (Vw w)) : Met l yX2_aheadTold wsX2_aheadTold mt_X2_aheadTold_rm (va_Pc [.ref y0] (gB (dC, dI) [(cA, .int)] [(y0, .inr (2, [.int tv, .int (nI rn), .ref q1, .ref q2, .int mn, .ref q3, .ref q4, .int ct, .int il, .ref q5])), (q1, .inl (cA, (2, .inl sf))), (q2, .inl (cA, (60, .inl lf))), (q3, .inl (cA, (320, .inl rf))), (q4, .inl (cA, (320, .inl nf))), (q5, .inl (cA, (6, .inl gf)))] sz)) (gM (dC, dI) (some (.int (paI (plain (turnL (Vw 0) ++ Vw 1)) 2))) (fun u : Int32 × (Nat → Int32) × (Nat → Int32) × Int32 × Int32 => True) (fun u : Int32 × (Nat → Int32) × (Nat → Int32) × Int32 × Int32 => [(y0, .inr (2, [.int tv, .int (nI rn), .ref q1, .ref q2, .int u.1, .ref q3, .ref q4, .int u.2.2.2.1, .int u.2.2.2.2, .ref q5])), (q1, .inl (cA, (2, .inl sf))), (q2, .inl (cA, (60, .inl lf))), (q3, .inl (cA, (320, .inl u.2.1))), (q4, .inl (cA, (320, .inl u.2.2.1))), (q5, .inl (cA, (6, .inl gf)))]) (va_A [(y0, .inr (2, [.int tv, .int (nI rn), .ref q1, .ref q2, .int mn, .ref q3, .ref q4, .int ct, .int il, .ref q5])), (q1, .inl (cA, (2, .inl sf))), (q2, .inl (cA, (60, .inl lf))), (q3, .inl (cA, (320, .inl rf))), (q4, .inl (cA, (320, .inl nf))), (q5, .inl (cA, (6, .inl gf)))] sz)) 0 0 (va_A [(y0, .inr (2, [.int tv, .int (nI rn), .ref q1, .ref q2, .int mn, .ref q3, .ref q4, .int ct, .int il, .ref q5])), (q1, .inl (cA, (2, .inl sf))), (q2, .inl (cA, (60, .inl lf))), (q3, .inl (cA, (320, .inl rf))), (q4, .inl (cA, (320, .inl nf))), (q5, .inl (cA, (6, .inl gf)))] sz) := by
  refine g_ofM (cc := cX2_aheadTold) (maxL := 1) (ret := (some .int)) (by decide) rfl (Nat.le_of_ble_eq_true rfl) (fun p e s m below meth c ls hx hb hr hml hts hown hlocks hP hK hl hin A hA hD hS => ?_)
  have hl : lv_has ls 1 [(0, .ref y0)] := hl
  have hWa := (hW 0 (by omega)).2.1
  have hWb := (hW 1 (by omega)).2.1
  refine lv_aload_n hx hb dX2_aheadTold_0 rfl (lv_at hl 0 rfl) ?_
  refine g_MVv (As := []) (rest := []) ⟨hx, hb, hml, hown, hts⟩ (mt_X2_loadBoth l dC dI cA s.heap.size y0 q1 q2 q3 q4 q5 rn tv sf lf mn rf nf ct il gf Vw hW) (cwV 0 hts gX2_aheadTold_X2_loadBoth rfl rfl rfl hdX2_loadBoth ⟨Nat.le_of_ble_eq_true rfl, Nat.le_of_ble_eq_true rfl⟩) hP hK hD hS hA [0, 1, 2, 3, 4, 5] (by decide) rfl (va_recv hK hP (ci := 2) (q0 := 0) rfl rfl) rfl hl.1 rfl (Nat.le_of_ble_eq_true rfl) dX2_aheadTold_1 (Nat.zero_le _) (Nat.zero_le _) (fun u9 => [(y0, .inr (2, [.int tv, .int (nI rn), .ref q1, .ref q2, .int (nI ((turnL (Vw 0) ++ Vw 1).length)), .ref q3, .ref q4, .int ct, .int il, .ref q5])), (q1, .inl (cA, (2, .inl sf))), (q2, .inl (cA, (60, .inl lf))), (q3, .inl (cA, (320, .inl u9))), (q4, .inl (cA, (320, .inl nf))), (q5, .inl (cA, (6, .inl gf)))]) (fun _ => rfl) (fun _ => rfl) (fun u H locs hw_2 hP hD hS => ?_)
  obtain ⟨r1_1, rfl⟩ : ∃ z, z = u := ⟨_, rfl⟩
  have hw_2 : MR (turnL (Vw 0) ++ Vw 1) r1_1 := hw_2
  have hP : va_P (dC, dI) vwCl [(y0, .inr (2, [.int tv, .int (nI rn), .ref q1, .ref q2, .int (nI ((turnL (Vw 0) ++ Vw 1).length)), .ref q3, .ref q4, .int ct, .int il, .ref q5])), (q1, .inl (cA, (2, .inl sf))), (q2, .inl (cA, (60, .inl lf))), (q3, .inl (cA, (320, .inl r1_1))), (q4, .inl (cA, (320, .inl nf))), (q5, .inl (cA, (6, .inl gf)))] H := hP
  have hD : va_D A [(y0, .inr (2, [.int tv, .int (nI rn), .ref q1, .ref q2, .int (nI ((turnL (Vw 0) ++ Vw 1).length)), .ref q3, .ref q4, .int ct, .int il, .ref q5])), (q1, .inl (cA, (2, .inl sf))), (q2, .inl (cA, (60, .inl lf))), (q3, .inl (cA, (320, .inl r1_1))), (q4, .inl (cA, (320, .inl nf))), (q5, .inl (cA, (6, .inl gf)))] := hD
  refine lv_aload_n hx hb dX2_aheadTold_4 rfl (lv_at hl 0 rfl) ?_
  refine g_MVv (As := []) (rest := []) ⟨hx, hb, hml, hown, hts⟩ (mt_X2_makePlain l dC dI cA H.size y0 q1 q2 q3 q4 q5 rn tv sf lf r1_1 nf ct il gf (turnL (Vw 0) ++ Vw 1) hw_2 hrn (okL_app (okL_turn hrn (hok 0 (by omega))) (hok 1 (by omega))) (by rw [List.length_append, turnL_len]; omega)) (cwV 0 hts gX2_aheadTold_X2_makePlain rfl rfl rfl hdX2_makePlain ⟨Nat.le_of_ble_eq_true rfl, Nat.le_of_ble_eq_true rfl⟩) hP hK hD hS hA [0, 1, 2, 3, 4, 5] (by decide) rfl (va_recv hK hP (ci := 2) (q0 := 0) rfl rfl) rfl hl.1 rfl (Nat.le_of_ble_eq_true rfl) dX2_aheadTold_5 (Nat.zero_le _) (Nat.zero_le _) (fun u9 => [(y0, .inr (2, [.int tv, .int (nI rn), .ref q1, .ref q2, .int (nI u9.1.length), .ref q3, .ref q4, .int u9.2.2.2.1, .int u9.2.2.2.2, .ref q5])), (q1, .inl (cA, (2, .inl sf))), (q2, .inl (cA, (60, .inl lf))), (q3, .inl (cA, (320, .inl u9.2.1))), (q4, .inl (cA, (320, .inl u9.2.2.1))), (q5, .inl (cA, (6, .inl gf)))]) (fun _ => rfl) (fun _ => rfl) (fun u H locs hw_8 hP hD hS => ?_)
  obtain ⟨Lt_3, r1_4, n1_5, c1_6, i1_7⟩ := u
  have hw_8 : MR Lt_3 r1_4 ∧ mpO (plain (turnL (Vw 0) ++ Vw 1)) i1_7 c1_6 Lt_3 ∧ okL rn Lt_3 := hw_8
  have hP : va_P (dC, dI) vwCl [(y0, .inr (2, [.int tv, .int (nI rn), .ref q1, .ref q2, .int (nI Lt_3.length), .ref q3, .ref q4, .int c1_6, .int i1_7, .ref q5])), (q1, .inl (cA, (2, .inl sf))), (q2, .inl (cA, (60, .inl lf))), (q3, .inl (cA, (320, .inl r1_4))), (q4, .inl (cA, (320, .inl n1_5))), (q5, .inl (cA, (6, .inl gf)))] H := hP
  have hD : va_D A [(y0, .inr (2, [.int tv, .int (nI rn), .ref q1, .ref q2, .int (nI Lt_3.length), .ref q3, .ref q4, .int c1_6, .int i1_7, .ref q5])), (q1, .inl (cA, (2, .inl sf))), (q2, .inl (cA, (60, .inl lf))), (q3, .inl (cA, (320, .inl r1_4))), (q4, .inl (cA, (320, .inl n1_5))), (q5, .inl (cA, (6, .inl gf)))] := hD
  refine lv_aload_n hx hb dX2_aheadTold_8 rfl (lv_at hl 0 rfl) ?_
  refine va_get (D := (dC, dI)) (ci := 2) (v := .int i1_7) (C := RX2) (T := TX2) (N := 10) hx hb hts (in_X2_aheadTold_2) hown hK hP 0 rfl rfl 8 (by decide) (hts (.fieldLink RX2 65 "BraidWordsModel" "isLost" "Z") (List.mem_of_getElem? (i := 1) rfl)) (fun _ h9 => h9) rfl dX2_aheadTold_9 ?_
  refine lv_if_eq (tgt := 20) hx hb dX2_aheadTold_12 (by decide) (fun c12 => ?_) (fun c12 => ?_)
  have hlen9 := hw_8.1.1
  · obtain ⟨z, c12, hz1, hz2⟩ := mpO_0 hw_8.2.1 c12
    refine lv_aload_n hx hb dX2_aheadTold_20 rfl (lv_at hl 0 rfl) ?_
    refine g_RVi (As := []) (rest := []) ⟨hx, hb, hml, hown, hts⟩ (mt_X2_sign l dC dI cA H.size y0 q1 q2 q3 q4 q5 rn tv sf lf r1_4 n1_5 c1_6 i1_7 gf Lt_3 hw_8.1 hrn hw_8.2.2) (cwV 0 hts gX2_aheadTold_X2_sign rfl rfl rfl hdX2_sign ⟨Nat.le_of_ble_eq_true rfl, Nat.le_of_ble_eq_true rfl⟩) hP hK hD [0, 1, 2, 3, 4, 5] (by decide) rfl (va_recv hK hP (ci := 2) (q0 := 0) rfl rfl) rfl hl.1 rfl (Nat.le_of_ble_eq_true rfl) dX2_aheadTold_21 (Nat.zero_le _) (Nat.zero_le _) ?_
    exact g_endMi hx hb hr hlocks hP hS dX2_aheadTold_24 (nI Lt_3.length, r1_4, n1_5, c1_6, i1_7) rfl (by rw [c12]; first | rfl | (show _ = nI z.2.length; rw [← hz2]) | (show _ = nI z.1; rw [hz1]) | (show _ = sgI (loL z.2 (z.2.length - 1)); rw [← hz2]) | (rw [leS_of hrn hw_8.2.2]; show _ = abI (loL z.2 (z.2.length - 1)); rw [← hz2]) | (show _ = (if z.2.length = 0 then 1 else 0); rw [← hz2]; first | (rw [if_pos (by omega)]; done) | (rw [if_neg (by omega)]; done))) trivial
  · have c12 := mpO_1 hw_8.2.1 c12
    refine lv_bipush (v := (-9)) hx hb dX2_aheadTold_15 (by decide) ?_
    refine lv_goto (tgt := 24) hx hb dX2_aheadTold_17 (by decide) ?_
    exact g_endMi hx hb hr hlocks hP hS dX2_aheadTold_24 (nI Lt_3.length, r1_4, n1_5, c1_6, i1_7) rfl (by rw [c12]; first | rfl | (show _ = nI z.2.length; rw [← hz2]) | (show _ = nI z.1; rw [hz1]) | (show _ = sgI (loL z.2 (z.2.length - 1)); rw [← hz2]) | (rw [leS_of hrn hw_8.2.2]; show _ = abI (loL z.2 (z.2.length - 1)); rw [← hz2]) | (show _ = (if z.2.length = 0 then 1 else 0); rw [← hz2]; first | (rw [if_pos (by omega)]; done) | (rw [if_neg (by omega)]; done))) trivial

abbrev mt_X2_with0_rm : Room := { frames := 4, cells := 0, slots := 0, locals := 108 }
set_option maxHeartbeats 4000000 in
set_option maxRecDepth 100000 in
theorem mt_X2_with0 (l : Launch) (dC : Nat → ClassId) (dI : Nat → Nat → Nat) (cA : ClassId) (sz : Nat) (y0 : Nat) (q1 : Nat) (q2 : Nat) (q3 : Nat) (q4 : Nat) (q5 : Nat) (rn : Nat) (tv : Int32) (sf : Nat → Int32) (lf : Nat → Int32) (mn : Int32) (rf : Nat → Int32) (nf : Nat → Int32) (ct : Int32) (il : Int32) (gf : Nat → Int32) (Vw : Nat → List Int32) (w : Nat) (hW : MW Vw sf lf) (hrn : rn ∈ rnS) (hr6 : rn ≤ 6) (hok : ∀ w, w < 2 → okL rn (Vw w)) (hw : w < 2) : Met l yX2_with wsX2_with mt_X2_with0_rm (va_Pc [.ref y0, .int (nI w), .int 0] (gB (dC, dI) [(cA, .int)] [(y0, .inr (2, [.int tv, .int (nI rn), .ref q1, .ref q2, .int mn, .ref q3, .ref q4, .int ct, .int il, .ref q5])), (q1, .inl (cA, (2, .inl sf))), (q2, .inl (cA, (60, .inl lf))), (q3, .inl (cA, (320, .inl rf))), (q4, .inl (cA, (320, .inl nf))), (q5, .inl (cA, (6, .inl gf)))] sz)) (gM (dC, dI) (some (.int (paI (plain (Vw w)) 0))) (fun u : Int32 × (Nat → Int32) × (Nat → Int32) × Int32 × Int32 => True) (fun u : Int32 × (Nat → Int32) × (Nat → Int32) × Int32 × Int32 => [(y0, .inr (2, [.int tv, .int (nI rn), .ref q1, .ref q2, .int u.1, .ref q3, .ref q4, .int u.2.2.2.1, .int u.2.2.2.2, .ref q5])), (q1, .inl (cA, (2, .inl sf))), (q2, .inl (cA, (60, .inl lf))), (q3, .inl (cA, (320, .inl u.2.1))), (q4, .inl (cA, (320, .inl u.2.2.1))), (q5, .inl (cA, (6, .inl gf)))]) (va_A [(y0, .inr (2, [.int tv, .int (nI rn), .ref q1, .ref q2, .int mn, .ref q3, .ref q4, .int ct, .int il, .ref q5])), (q1, .inl (cA, (2, .inl sf))), (q2, .inl (cA, (60, .inl lf))), (q3, .inl (cA, (320, .inl rf))), (q4, .inl (cA, (320, .inl nf))), (q5, .inl (cA, (6, .inl gf)))] sz)) 0 0 (va_A [(y0, .inr (2, [.int tv, .int (nI rn), .ref q1, .ref q2, .int mn, .ref q3, .ref q4, .int ct, .int il, .ref q5])), (q1, .inl (cA, (2, .inl sf))), (q2, .inl (cA, (60, .inl lf))), (q3, .inl (cA, (320, .inl rf))), (q4, .inl (cA, (320, .inl nf))), (q5, .inl (cA, (6, .inl gf)))] sz) := by
  refine g_ofM (cc := cX2_with) (maxL := 3) (ret := (some .int)) (by decide) rfl (Nat.le_of_ble_eq_true rfl) (fun p e s m below meth c ls hx hb hr hml hts hown hlocks hP hK hl hin A hA hD hS => ?_)
  have hl : lv_has ls 3 [(0, .ref y0), (1, .int (nI w)), (2, .int 0)] := hl
  have hWl := (hW w hw).2.1
  refine lv_aload_n hx hb dX2_with_0 rfl (lv_at hl 0 rfl) ?_
  refine lv_iload_n hx hb dX2_with_1 rfl (lv_at hl 1 rfl) ?_
  refine g_MVv (As := [.int (nI w)]) (rest := []) ⟨hx, hb, hml, hown, hts⟩ (mt_X2_load l dC dI cA s.heap.size y0 q1 q2 q3 q4 q5 rn tv sf lf mn rf nf ct il gf Vw w hW hw) (cwV 1 hts gX2_with_X2_load rfl rfl rfl hdX2_load ⟨Nat.le_of_ble_eq_true rfl, Nat.le_of_ble_eq_true rfl⟩) hP hK hD hS hA [0, 1, 2, 3, 4, 5] (by decide) rfl (va_recv hK hP (ci := 2) (q0 := 0) rfl rfl) rfl hl.1 rfl (Nat.le_of_ble_eq_true rfl) dX2_with_2 (Nat.zero_le _) (Nat.zero_le _) (fun u9 => [(y0, .inr (2, [.int tv, .int (nI rn), .ref q1, .ref q2, .int (nI ((Vw w).length)), .ref q3, .ref q4, .int ct, .int il, .ref q5])), (q1, .inl (cA, (2, .inl sf))), (q2, .inl (cA, (60, .inl lf))), (q3, .inl (cA, (320, .inl u9))), (q4, .inl (cA, (320, .inl nf))), (q5, .inl (cA, (6, .inl gf)))]) (fun _ => rfl) (fun _ => rfl) (fun u H locs hw_2 hP hD hS => ?_)
  obtain ⟨r1_1, rfl⟩ : ∃ z, z = u := ⟨_, rfl⟩
  have hw_2 : MR (Vw w) r1_1 := hw_2
  have hP : va_P (dC, dI) vwCl [(y0, .inr (2, [.int tv, .int (nI rn), .ref q1, .ref q2, .int (nI ((Vw w).length)), .ref q3, .ref q4, .int ct, .int il, .ref q5])), (q1, .inl (cA, (2, .inl sf))), (q2, .inl (cA, (60, .inl lf))), (q3, .inl (cA, (320, .inl r1_1))), (q4, .inl (cA, (320, .inl nf))), (q5, .inl (cA, (6, .inl gf)))] H := hP
  have hD : va_D A [(y0, .inr (2, [.int tv, .int (nI rn), .ref q1, .ref q2, .int (nI ((Vw w).length)), .ref q3, .ref q4, .int ct, .int il, .ref q5])), (q1, .inl (cA, (2, .inl sf))), (q2, .inl (cA, (60, .inl lf))), (q3, .inl (cA, (320, .inl r1_1))), (q4, .inl (cA, (320, .inl nf))), (q5, .inl (cA, (6, .inl gf)))] := hD
  refine lv_iload_n hx hb dX2_with_5 rfl (lv_at hl 2 rfl) ?_
  refine lv_if_eq (tgt := 29) hx hb dX2_with_6 (by decide) (fun c6 => ?_) (fun c6 => ?_)
  · have c6 : 0 = 0 := g_eqT 0 0 (by omega) (by omega) c6
    refine lv_aload_n hx hb dX2_with_29 rfl (lv_at hl 0 rfl) ?_
    refine g_MVv (As := []) (rest := []) ⟨hx, hb, hml, hown, hts⟩ (mt_X2_makePlain l dC dI cA H.size y0 q1 q2 q3 q4 q5 rn tv sf lf r1_1 nf ct il gf (Vw w) hw_2 hrn (hok w hw) (by first | omega | (simp only [List.length_append, List.length_cons, List.length_nil, List.length_set, turnL_len]; omega))) (cwV 0 hts gX2_with_X2_makePlain rfl rfl rfl hdX2_makePlain ⟨Nat.le_of_ble_eq_true rfl, Nat.le_of_ble_eq_true rfl⟩) hP hK hD hS hA [0, 1, 2, 3, 4, 5] (by decide) rfl (va_recv hK hP (ci := 2) (q0 := 0) rfl rfl) rfl hl.1 rfl (Nat.le_of_ble_eq_true rfl) dX2_with_30 (Nat.zero_le _) (Nat.zero_le _) (fun u9 => [(y0, .inr (2, [.int tv, .int (nI rn), .ref q1, .ref q2, .int (nI u9.1.length), .ref q3, .ref q4, .int u9.2.2.2.1, .int u9.2.2.2.2, .ref q5])), (q1, .inl (cA, (2, .inl sf))), (q2, .inl (cA, (60, .inl lf))), (q3, .inl (cA, (320, .inl u9.2.1))), (q4, .inl (cA, (320, .inl u9.2.2.1))), (q5, .inl (cA, (6, .inl gf)))]) (fun _ => rfl) (fun _ => rfl) (fun u H locs hw_8 hP hD hS => ?_)
    obtain ⟨Lt_3, r1_4, n1_5, c1_6, i1_7⟩ := u
    have hw_8 : MR Lt_3 r1_4 ∧ mpO (plain (Vw w)) i1_7 c1_6 Lt_3 ∧ okL rn Lt_3 := hw_8
    have hP : va_P (dC, dI) vwCl [(y0, .inr (2, [.int tv, .int (nI rn), .ref q1, .ref q2, .int (nI Lt_3.length), .ref q3, .ref q4, .int c1_6, .int i1_7, .ref q5])), (q1, .inl (cA, (2, .inl sf))), (q2, .inl (cA, (60, .inl lf))), (q3, .inl (cA, (320, .inl r1_4))), (q4, .inl (cA, (320, .inl n1_5))), (q5, .inl (cA, (6, .inl gf)))] H := hP
    have hD : va_D A [(y0, .inr (2, [.int tv, .int (nI rn), .ref q1, .ref q2, .int (nI Lt_3.length), .ref q3, .ref q4, .int c1_6, .int i1_7, .ref q5])), (q1, .inl (cA, (2, .inl sf))), (q2, .inl (cA, (60, .inl lf))), (q3, .inl (cA, (320, .inl r1_4))), (q4, .inl (cA, (320, .inl n1_5))), (q5, .inl (cA, (6, .inl gf)))] := hD
    refine lv_aload_n hx hb dX2_with_33 rfl (lv_at hl 0 rfl) ?_
    refine va_get (D := (dC, dI)) (ci := 2) (v := .int i1_7) (C := RX2) (T := TX2) (N := 10) hx hb hts (in_X2_with_2) hown hK hP 0 rfl rfl 8 (by decide) (hts (.fieldLink RX2 65 "BraidWordsModel" "isLost" "Z") (List.mem_of_getElem? (i := 3) rfl)) (fun _ h9 => h9) rfl dX2_with_34 ?_
    refine lv_if_eq (tgt := 45) hx hb dX2_with_37 (by decide) (fun c37 => ?_) (fun c37 => ?_)
    have hlen9 := hw_8.1.1
    · obtain ⟨z, c37, hz1, hz2⟩ := mpO_0 hw_8.2.1 c37
      refine lv_aload_n hx hb dX2_with_45 rfl (lv_at hl 0 rfl) ?_
      refine va_get (D := (dC, dI)) (ci := 2) (v := .int (nI Lt_3.length)) (C := RX2) (T := TX2) (N := 10) hx hb hts (in_X2_with_2) hown hK hP 0 rfl rfl 4 (by decide) (hts (.fieldLink RX2 36 "BraidWordsModel" "many" "I") (List.mem_of_getElem? (i := 2) rfl)) (fun _ h9 => h9) rfl dX2_with_46 ?_
      exact g_endMi hx hb hr hlocks hP hS dX2_with_49 (nI Lt_3.length, r1_4, n1_5, c1_6, i1_7) rfl (by rw [c37]; first | rfl | (show _ = nI z.2.length; rw [← hz2]) | (show _ = nI z.1; rw [hz1]) | (show _ = sgI (loL z.2 (z.2.length - 1)); rw [← hz2]) | (rw [leS_of hrn hw_8.2.2]; show _ = abI (loL z.2 (z.2.length - 1)); rw [← hz2]) | (show _ = (if z.2.length = 0 then 1 else 0); rw [← hz2]; first | (rw [if_pos (by omega)]; done) | (rw [if_neg (by omega)]; done))) trivial
    · have c37 := mpO_1 hw_8.2.1 c37
      refine lv_bipush (v := (-9)) hx hb dX2_with_40 (by decide) ?_
      refine lv_goto (tgt := 49) hx hb dX2_with_42 (by decide) ?_
      exact g_endMi hx hb hr hlocks hP hS dX2_with_49 (nI Lt_3.length, r1_4, n1_5, c1_6, i1_7) rfl (by rw [c37]; first | rfl | (show _ = nI z.2.length; rw [← hz2]) | (show _ = nI z.1; rw [hz1]) | (show _ = sgI (loL z.2 (z.2.length - 1)); rw [← hz2]) | (rw [leS_of hrn hw_8.2.2]; show _ = abI (loL z.2 (z.2.length - 1)); rw [← hz2]) | (show _ = (if z.2.length = 0 then 1 else 0); rw [← hz2]; first | (rw [if_pos (by omega)]; done) | (rw [if_neg (by omega)]; done))) trivial
  · exact absurd (by decide) c6

abbrev mt_X2_withx_rm : Room := { frames := 4, cells := 0, slots := 0, locals := 108 }
set_option maxHeartbeats 4000000 in
set_option maxRecDepth 100000 in
theorem mt_X2_withx (l : Launch) (dC : Nat → ClassId) (dI : Nat → Nat → Nat) (cA : ClassId) (sz : Nat) (y0 : Nat) (q1 : Nat) (q2 : Nat) (q3 : Nat) (q4 : Nat) (q5 : Nat) (rn : Nat) (tv : Int32) (sf : Nat → Int32) (lf : Nat → Int32) (mn : Int32) (rf : Nat → Int32) (nf : Nat → Int32) (ct : Int32) (il : Int32) (gf : Nat → Int32) (Vw : Nat → List Int32) (w : Nat) (x : Int32) (hW : MW Vw sf lf) (hrn : rn ∈ rnS) (hr6 : rn ≤ 6) (hok : ∀ w, w < 2 → okL rn (Vw w)) (hw : w < 2) (hx9 : x ∈ okr rn) : Met l yX2_with wsX2_with mt_X2_withx_rm (va_Pc [.ref y0, .int (nI w), .int x] (gB (dC, dI) [(cA, .int)] [(y0, .inr (2, [.int tv, .int (nI rn), .ref q1, .ref q2, .int mn, .ref q3, .ref q4, .int ct, .int il, .ref q5])), (q1, .inl (cA, (2, .inl sf))), (q2, .inl (cA, (60, .inl lf))), (q3, .inl (cA, (320, .inl rf))), (q4, .inl (cA, (320, .inl nf))), (q5, .inl (cA, (6, .inl gf)))] sz)) (gM (dC, dI) (some (.int (paI (plain (Vw w ++ [x])) 0))) (fun u : Int32 × (Nat → Int32) × (Nat → Int32) × Int32 × Int32 => True) (fun u : Int32 × (Nat → Int32) × (Nat → Int32) × Int32 × Int32 => [(y0, .inr (2, [.int tv, .int (nI rn), .ref q1, .ref q2, .int u.1, .ref q3, .ref q4, .int u.2.2.2.1, .int u.2.2.2.2, .ref q5])), (q1, .inl (cA, (2, .inl sf))), (q2, .inl (cA, (60, .inl lf))), (q3, .inl (cA, (320, .inl u.2.1))), (q4, .inl (cA, (320, .inl u.2.2.1))), (q5, .inl (cA, (6, .inl gf)))]) (va_A [(y0, .inr (2, [.int tv, .int (nI rn), .ref q1, .ref q2, .int mn, .ref q3, .ref q4, .int ct, .int il, .ref q5])), (q1, .inl (cA, (2, .inl sf))), (q2, .inl (cA, (60, .inl lf))), (q3, .inl (cA, (320, .inl rf))), (q4, .inl (cA, (320, .inl nf))), (q5, .inl (cA, (6, .inl gf)))] sz)) 0 0 (va_A [(y0, .inr (2, [.int tv, .int (nI rn), .ref q1, .ref q2, .int mn, .ref q3, .ref q4, .int ct, .int il, .ref q5])), (q1, .inl (cA, (2, .inl sf))), (q2, .inl (cA, (60, .inl lf))), (q3, .inl (cA, (320, .inl rf))), (q4, .inl (cA, (320, .inl nf))), (q5, .inl (cA, (6, .inl gf)))] sz) := by
  refine g_ofM (cc := cX2_with) (maxL := 3) (ret := (some .int)) (by decide) rfl (Nat.le_of_ble_eq_true rfl) (fun p e s m below meth c ls hx hb hr hml hts hown hlocks hP hK hl hin A hA hD hS => ?_)
  have hl : lv_has ls 3 [(0, .ref y0), (1, .int (nI w)), (2, .int x)] := hl
  have hWl := (hW w hw).2.1
  refine lv_aload_n hx hb dX2_with_0 rfl (lv_at hl 0 rfl) ?_
  refine lv_iload_n hx hb dX2_with_1 rfl (lv_at hl 1 rfl) ?_
  refine g_MVv (As := [.int (nI w)]) (rest := []) ⟨hx, hb, hml, hown, hts⟩ (mt_X2_load l dC dI cA s.heap.size y0 q1 q2 q3 q4 q5 rn tv sf lf mn rf nf ct il gf Vw w hW hw) (cwV 1 hts gX2_with_X2_load rfl rfl rfl hdX2_load ⟨Nat.le_of_ble_eq_true rfl, Nat.le_of_ble_eq_true rfl⟩) hP hK hD hS hA [0, 1, 2, 3, 4, 5] (by decide) rfl (va_recv hK hP (ci := 2) (q0 := 0) rfl rfl) rfl hl.1 rfl (Nat.le_of_ble_eq_true rfl) dX2_with_2 (Nat.zero_le _) (Nat.zero_le _) (fun u9 => [(y0, .inr (2, [.int tv, .int (nI rn), .ref q1, .ref q2, .int (nI ((Vw w).length)), .ref q3, .ref q4, .int ct, .int il, .ref q5])), (q1, .inl (cA, (2, .inl sf))), (q2, .inl (cA, (60, .inl lf))), (q3, .inl (cA, (320, .inl u9))), (q4, .inl (cA, (320, .inl nf))), (q5, .inl (cA, (6, .inl gf)))]) (fun _ => rfl) (fun _ => rfl) (fun u H locs hw_2 hP hD hS => ?_)
  obtain ⟨r1_1, rfl⟩ : ∃ z, z = u := ⟨_, rfl⟩
  have hw_2 : MR (Vw w) r1_1 := hw_2
  have hP : va_P (dC, dI) vwCl [(y0, .inr (2, [.int tv, .int (nI rn), .ref q1, .ref q2, .int (nI ((Vw w).length)), .ref q3, .ref q4, .int ct, .int il, .ref q5])), (q1, .inl (cA, (2, .inl sf))), (q2, .inl (cA, (60, .inl lf))), (q3, .inl (cA, (320, .inl r1_1))), (q4, .inl (cA, (320, .inl nf))), (q5, .inl (cA, (6, .inl gf)))] H := hP
  have hD : va_D A [(y0, .inr (2, [.int tv, .int (nI rn), .ref q1, .ref q2, .int (nI ((Vw w).length)), .ref q3, .ref q4, .int ct, .int il, .ref q5])), (q1, .inl (cA, (2, .inl sf))), (q2, .inl (cA, (60, .inl lf))), (q3, .inl (cA, (320, .inl r1_1))), (q4, .inl (cA, (320, .inl nf))), (q5, .inl (cA, (6, .inl gf)))] := hD
  refine lv_iload_n hx hb dX2_with_5 rfl (lv_at hl 2 rfl) ?_
  refine lv_if_eq (tgt := 29) hx hb dX2_with_6 (by decide) (fun c6 => ?_) (fun c6 => ?_)
  · exact absurd c6 (ok_ne0 rn hrn x hx9).1
  · refine lv_aload_n hx hb dX2_with_9 rfl (lv_at hl 0 rfl) ?_
    refine va_get (D := (dC, dI)) (ci := 2) (v := .ref q3) (C := RX2) (T := TX2) (N := 10) hx hb hts (in_X2_with_2) hown hK hP 0 rfl rfl 5 (by decide) (hts (.fieldLink RX2 20 "BraidWordsModel" "row" "[I") (List.mem_of_getElem? (i := 1) rfl)) (fun _ h9 => h9) rfl dX2_with_10 ?_
    refine lv_aload_n hx hb dX2_with_13 rfl (lv_at hl 0 rfl) ?_
    refine va_get (D := (dC, dI)) (ci := 2) (v := .int (nI ((Vw w).length))) (C := RX2) (T := TX2) (N := 10) hx hb hts (in_X2_with_2) hown hK hP 0 rfl rfl 4 (by decide) (hts (.fieldLink RX2 36 "BraidWordsModel" "many" "I") (List.mem_of_getElem? (i := 2) rfl)) (fun _ h9 => h9) rfl dX2_with_14 ?_
    refine lv_iload_n hx hb dX2_with_17 rfl (lv_at hl 2 rfl) ?_
    refine va_iast hx hb hK hP hD hS 3 0 rfl rfl (vp_in_nI (by omega) (by decide)) dX2_with_18 (fun H locs hP hD hS => ?_)
    rw [show (nI ((Vw w).length)).toNatClampNeg = (Vw w).length from nI_clamp (by omega)] at hP hD
    have hP : va_P (dC, dI) vwCl [(y0, .inr (2, [.int tv, .int (nI rn), .ref q1, .ref q2, .int (nI ((Vw w).length)), .ref q3, .ref q4, .int ct, .int il, .ref q5])), (q1, .inl (cA, (2, .inl sf))), (q2, .inl (cA, (60, .inl lf))), (q3, .inl (cA, (320, .inl (upd r1_1 ((Vw w).length) x)))), (q4, .inl (cA, (320, .inl nf))), (q5, .inl (cA, (6, .inl gf)))] H := hP
    have hD : va_D A [(y0, .inr (2, [.int tv, .int (nI rn), .ref q1, .ref q2, .int (nI ((Vw w).length)), .ref q3, .ref q4, .int ct, .int il, .ref q5])), (q1, .inl (cA, (2, .inl sf))), (q2, .inl (cA, (60, .inl lf))), (q3, .inl (cA, (320, .inl (upd r1_1 ((Vw w).length) x)))), (q4, .inl (cA, (320, .inl nf))), (q5, .inl (cA, (6, .inl gf)))] := hD
    refine lv_aload_n hx hb dX2_with_19 rfl (lv_at hl 0 rfl) ?_
    refine lv_dup hx hb dX2_with_20 rfl ?_
    refine va_get (D := (dC, dI)) (ci := 2) (v := .int (nI ((Vw w).length))) (C := RX2) (T := TX2) (N := 10) hx hb hts (in_X2_with_2) hown hK hP 0 rfl rfl 4 (by decide) (hts (.fieldLink RX2 36 "BraidWordsModel" "many" "I") (List.mem_of_getElem? (i := 2) rfl)) (fun _ h9 => h9) rfl dX2_with_21 ?_
    refine lv_iconst (v := 1) hx hb dX2_with_24 (by decide) ?_
    refine lv_iadd hx hb dX2_with_25 ?_
    rw [show (nI ((Vw w).length)) + 1 = nI ((Vw w).length + 1) from nI_add ((Vw w).length) 1]
    refine va_put (D := (dC, dI)) (ci := 2) (v := .int (nI ((Vw w).length + 1))) (ty := .int) (C := RX2) (T := TX2) (N := 10) hx hb hts (in_X2_with_2) tyX2 tyX2_ok nmX2 hown hK hP hD hS 0 rfl rfl 4 (by decide) (hts (.fieldLink RX2 36 "BraidWordsModel" "many" "I") (List.mem_of_getElem? (i := 2) rfl)) (fun _ h9 => h9) rfl (by decide +kernel) rfl rfl (Nat.le_of_ble_eq_true rfl) dX2_with_26 (fun H locs hP hD hS => ?_)
    have hP : va_P (dC, dI) vwCl [(y0, .inr (2, [.int tv, .int (nI rn), .ref q1, .ref q2, .int (nI ((Vw w).length + 1)), .ref q3, .ref q4, .int ct, .int il, .ref q5])), (q1, .inl (cA, (2, .inl sf))), (q2, .inl (cA, (60, .inl lf))), (q3, .inl (cA, (320, .inl (upd r1_1 ((Vw w).length) x)))), (q4, .inl (cA, (320, .inl nf))), (q5, .inl (cA, (6, .inl gf)))] H := hP
    have hD : va_D A [(y0, .inr (2, [.int tv, .int (nI rn), .ref q1, .ref q2, .int (nI ((Vw w).length + 1)), .ref q3, .ref q4, .int ct, .int il, .ref q5])), (q1, .inl (cA, (2, .inl sf))), (q2, .inl (cA, (60, .inl lf))), (q3, .inl (cA, (320, .inl (upd r1_1 ((Vw w).length) x)))), (q4, .inl (cA, (320, .inl nf))), (q5, .inl (cA, (6, .inl gf)))] := hD
    rw [show (Vw w).length + 1 = (Vw w ++ [x]).length from len_snoc.symm] at hP hD
    refine lv_aload_n hx hb dX2_with_29 rfl (lv_at hl 0 rfl) ?_
    refine g_MVv (As := []) (rest := []) ⟨hx, hb, hml, hown, hts⟩ (mt_X2_makePlain l dC dI cA H.size y0 q1 q2 q3 q4 q5 rn tv sf lf (upd r1_1 ((Vw w).length) x) nf ct il gf (Vw w ++ [x]) (MR_push hw_2 (by omega)) hrn (okL_app (hok w hw) (okL_one hx9)) (by rw [len_snoc]; omega)) (cwV 0 hts gX2_with_X2_makePlain rfl rfl rfl hdX2_makePlain ⟨Nat.le_of_ble_eq_true rfl, Nat.le_of_ble_eq_true rfl⟩) hP hK hD hS hA [0, 1, 2, 3, 4, 5] (by decide) rfl (va_recv hK hP (ci := 2) (q0 := 0) rfl rfl) rfl hl.1 rfl (Nat.le_of_ble_eq_true rfl) dX2_with_30 (Nat.zero_le _) (Nat.zero_le _) (fun u9 => [(y0, .inr (2, [.int tv, .int (nI rn), .ref q1, .ref q2, .int (nI u9.1.length), .ref q3, .ref q4, .int u9.2.2.2.1, .int u9.2.2.2.2, .ref q5])), (q1, .inl (cA, (2, .inl sf))), (q2, .inl (cA, (60, .inl lf))), (q3, .inl (cA, (320, .inl u9.2.1))), (q4, .inl (cA, (320, .inl u9.2.2.1))), (q5, .inl (cA, (6, .inl gf)))]) (fun _ => rfl) (fun _ => rfl) (fun u H locs hw_8 hP hD hS => ?_)
    obtain ⟨Lt_3, r1_4, n1_5, c1_6, i1_7⟩ := u
    have hw_8 : MR Lt_3 r1_4 ∧ mpO (plain (Vw w ++ [x])) i1_7 c1_6 Lt_3 ∧ okL rn Lt_3 := hw_8
    have hP : va_P (dC, dI) vwCl [(y0, .inr (2, [.int tv, .int (nI rn), .ref q1, .ref q2, .int (nI Lt_3.length), .ref q3, .ref q4, .int c1_6, .int i1_7, .ref q5])), (q1, .inl (cA, (2, .inl sf))), (q2, .inl (cA, (60, .inl lf))), (q3, .inl (cA, (320, .inl r1_4))), (q4, .inl (cA, (320, .inl n1_5))), (q5, .inl (cA, (6, .inl gf)))] H := hP
    have hD : va_D A [(y0, .inr (2, [.int tv, .int (nI rn), .ref q1, .ref q2, .int (nI Lt_3.length), .ref q3, .ref q4, .int c1_6, .int i1_7, .ref q5])), (q1, .inl (cA, (2, .inl sf))), (q2, .inl (cA, (60, .inl lf))), (q3, .inl (cA, (320, .inl r1_4))), (q4, .inl (cA, (320, .inl n1_5))), (q5, .inl (cA, (6, .inl gf)))] := hD
    refine lv_aload_n hx hb dX2_with_33 rfl (lv_at hl 0 rfl) ?_
    refine va_get (D := (dC, dI)) (ci := 2) (v := .int i1_7) (C := RX2) (T := TX2) (N := 10) hx hb hts (in_X2_with_2) hown hK hP 0 rfl rfl 8 (by decide) (hts (.fieldLink RX2 65 "BraidWordsModel" "isLost" "Z") (List.mem_of_getElem? (i := 3) rfl)) (fun _ h9 => h9) rfl dX2_with_34 ?_
    refine lv_if_eq (tgt := 45) hx hb dX2_with_37 (by decide) (fun c37 => ?_) (fun c37 => ?_)
    have hlen9 := hw_8.1.1
    · obtain ⟨z, c37, hz1, hz2⟩ := mpO_0 hw_8.2.1 c37
      refine lv_aload_n hx hb dX2_with_45 rfl (lv_at hl 0 rfl) ?_
      refine va_get (D := (dC, dI)) (ci := 2) (v := .int (nI Lt_3.length)) (C := RX2) (T := TX2) (N := 10) hx hb hts (in_X2_with_2) hown hK hP 0 rfl rfl 4 (by decide) (hts (.fieldLink RX2 36 "BraidWordsModel" "many" "I") (List.mem_of_getElem? (i := 2) rfl)) (fun _ h9 => h9) rfl dX2_with_46 ?_
      exact g_endMi hx hb hr hlocks hP hS dX2_with_49 (nI Lt_3.length, r1_4, n1_5, c1_6, i1_7) rfl (by rw [c37]; first | rfl | (show _ = nI z.2.length; rw [← hz2]) | (show _ = nI z.1; rw [hz1]) | (show _ = sgI (loL z.2 (z.2.length - 1)); rw [← hz2]) | (rw [leS_of hrn hw_8.2.2]; show _ = abI (loL z.2 (z.2.length - 1)); rw [← hz2]) | (show _ = (if z.2.length = 0 then 1 else 0); rw [← hz2]; first | (rw [if_pos (by omega)]; done) | (rw [if_neg (by omega)]; done))) trivial
    · have c37 := mpO_1 hw_8.2.1 c37
      refine lv_bipush (v := (-9)) hx hb dX2_with_40 (by decide) ?_
      refine lv_goto (tgt := 49) hx hb dX2_with_42 (by decide) ?_
      exact g_endMi hx hb hr hlocks hP hS dX2_with_49 (nI Lt_3.length, r1_4, n1_5, c1_6, i1_7) rfl (by rw [c37]; first | rfl | (show _ = nI z.2.length; rw [← hz2]) | (show _ = nI z.1; rw [hz1]) | (show _ = sgI (loL z.2 (z.2.length - 1)); rw [← hz2]) | (rw [leS_of hrn hw_8.2.2]; show _ = abI (loL z.2 (z.2.length - 1)); rw [← hz2]) | (show _ = (if z.2.length = 0 then 1 else 0); rw [← hz2]; first | (rw [if_pos (by omega)]; done) | (rw [if_neg (by omega)]; done))) trivial
