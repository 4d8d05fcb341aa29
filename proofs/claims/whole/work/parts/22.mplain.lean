theorem lo_le {rn : Nat} (hr : rn ∈ rnS) {L : List Int32} (h : okL rn L) (hl : 0 < L.length) : leS L L.length = abI (loL L (L.length - 1)) := by
  have := (leS_lo hr h (k := L.length - 1) (by omega)).1
  rwa [show L.length - 1 + 1 = L.length by omega] at this
theorem sign_found {rn : Nat} (hr : rn ∈ rnS) {L : List Int32} (h : okL rn L) {k : Nat} {v : Int32} (hk : k < L.length) (hno : ∀ j, j < k → ¬ abI (atL L j) = leS L L.length) (he : abI (atL L k) = leS L L.length) (hv : (¬ atL L k ≤ 0 ∧ v = 1) ∨ (atL L k ≤ 0 ∧ v = -1)) : v = sgI (loL L (L.length - 1)) := by
  have e := lo_le hr h (by omega)
  rw [e] at he
  rw [lo_first (show k ≤ L.length - 1 by omega) (fun j hj q => hno j hj (by rw [e]; exact q)) he]
  rcases hv with ⟨c, rfl⟩ | ⟨c, rfl⟩
  · exact (ok_sgp rn hr _ (okL_at h hk) c).symm
  · exact (ok_sgn rn hr _ (okL_at h hk) c).symm
theorem sign_none {rn : Nat} (hr : rn ∈ rnS) {L : List Int32} (h : okL rn L) (hno : ∀ j, j < L.length → ¬ abI (atL L j) = leS L L.length) : 0 = sgI (loL L (L.length - 1)) := by
  by_cases c : 0 < L.length
  · exfalso
    obtain ⟨j, h1, h2⟩ := lo_some (L := L) (m := L.length - 1)
    exact hno j (by omega) (by rw [lo_le hr h c, h2])
  · have e : L = [] := List.length_eq_zero_iff.mp (by omega)
    subst e
    decide
set_option maxRecDepth 20000 in
theorem in_X2_cutAt_2 : ∀ w ∈ wsX20, w ∈ wsX2_cutAt := by decide +kernel
set_option maxRecDepth 20000 in
theorem in_X2_makePlain_2 : ∀ w ∈ wsX20, w ∈ wsX2_makePlain := by decide +kernel
set_option maxRecDepth 20000 in
theorem in_X2_least_2 : ∀ w ∈ wsX20, w ∈ wsX2_least := by decide +kernel
set_option maxRecDepth 20000 in
theorem in_X2_sign_2 : ∀ w ∈ wsX20, w ∈ wsX2_sign := by decide +kernel
theorem hdX2_cutAt : yX2_cutAt.cls = RX2 ∧ yX2_cutAt.cls ≠ "java/lang/invoke/MethodHandle" ∧ yX2_cutAt.cls ≠ "java/lang/invoke/VarHandle" ∧ (parseMethodDescriptor yX2_cutAt.desc).map (fun d => d.parameters.length) = some 1 := by decide +kernel
theorem hdX2_ends : yX2_ends.cls = RX2 ∧ yX2_ends.cls ≠ "java/lang/invoke/MethodHandle" ∧ yX2_ends.cls ≠ "java/lang/invoke/VarHandle" ∧ (parseMethodDescriptor yX2_ends.desc).map (fun d => d.parameters.length) = some 0 := by decide +kernel
theorem hdX2_least : yX2_least.cls = RX2 ∧ yX2_least.cls ≠ "java/lang/invoke/MethodHandle" ∧ yX2_least.cls ≠ "java/lang/invoke/VarHandle" ∧ (parseMethodDescriptor yX2_least.desc).map (fun d => d.parameters.length) = some 0 := by decide +kernel
abbrev mt_X2_cutAt_rm : Room := { frames := 2, cells := 0, slots := 0, locals := 60 }
set_option maxHeartbeats 4000000 in
set_option maxRecDepth 100000 in
theorem mt_X2_cutAt (l : Launch) (dC : Nat → ClassId) (dI : Nat → Nat → Nat) (cA : ClassId) (sz : Nat) (y0 : Nat) (q1 : Nat) (q2 : Nat) (q3 : Nat) (q4 : Nat) (q5 : Nat) (rn : Nat) (tv : Int32) (sf : Nat → Int32) (lf : Nat → Int32) (rf : Nat → Int32) (nf : Nat → Int32) (ct : Int32) (il : Int32) (gf : Nat → Int32) (L : List Int32) (b9 : Nat) (e9 : Nat) (hR : MR L rf) (hrn : rn ∈ rnS) (hok : okL rn L) (he9 : e9 < L.length) (hbg : bg L e9 = some b9) (hk : L.length ≤ 100) : Met l yX2_cutAt wsX2_cutAt mt_X2_cutAt_rm (va_Pc [.ref y0, .int (nI e9)] (gB (dC, dI) [(cA, .int)] [(y0, .inr (2, [.int tv, .int (nI rn), .ref q1, .ref q2, .int (nI L.length), .ref q3, .ref q4, .int ct, .int il, .ref q5])), (q1, .inl (cA, (2, .inl sf))), (q2, .inl (cA, (60, .inl lf))), (q3, .inl (cA, (320, .inl rf))), (q4, .inl (cA, (320, .inl nf))), (q5, .inl (cA, (6, .inl gf)))] sz)) (gM (dC, dI) none (fun u : (Nat → Int32) × (Nat → Int32) => MR (cutL L b9 e9) u.1) (fun u : (Nat → Int32) × (Nat → Int32) => [(y0, .inr (2, [.int tv, .int (nI rn), .ref q1, .ref q2, .int (nI ((cutL L b9 e9).length)), .ref q3, .ref q4, .int ct, .int il, .ref q5])), (q1, .inl (cA, (2, .inl sf))), (q2, .inl (cA, (60, .inl lf))), (q3, .inl (cA, (320, .inl u.1))), (q4, .inl (cA, (320, .inl u.2))), (q5, .inl (cA, (6, .inl gf)))]) (va_A [(y0, .inr (2, [.int tv, .int (nI rn), .ref q1, .ref q2, .int (nI L.length), .ref q3, .ref q4, .int ct, .int il, .ref q5])), (q1, .inl (cA, (2, .inl sf))), (q2, .inl (cA, (60, .inl lf))), (q3, .inl (cA, (320, .inl rf))), (q4, .inl (cA, (320, .inl nf))), (q5, .inl (cA, (6, .inl gf)))] sz)) 0 0 (va_A [(y0, .inr (2, [.int tv, .int (nI rn), .ref q1, .ref q2, .int (nI L.length), .ref q3, .ref q4, .int ct, .int il, .ref q5])), (q1, .inl (cA, (2, .inl sf))), (q2, .inl (cA, (60, .inl lf))), (q3, .inl (cA, (320, .inl rf))), (q4, .inl (cA, (320, .inl nf))), (q5, .inl (cA, (6, .inl gf)))] sz) := by
  refine g_ofM (cc := cX2_cutAt) (maxL := 8) (ret := none) (by decide) rfl (Nat.le_of_ble_eq_true rfl) (fun p e s m below meth c ls hx hb hr hml hts hown hlocks hP hK hl hin A hA hD hS => ?_)
  have hl : lv_has ls 8 [(0, .ref y0), (1, .int (nI e9))] := hl
  have hLm := hR.1
  have hbe := bg_lt hbg
  have hb2 : b9 < L.length := by omega
  have heb : abI (atL L b9) = abI (atL L e9) := by rw [bg_neg hbg]; exact (ok_neg rn hrn _ (okL_at hok he9)).2
  have hcl := cutL_len hbe he9
  have hcn : cnL L b9 (e9 - (b9 + 1)) ≤ e9 - (b9 + 1) := cnL_le
  refine lv_aload_n hx hb dX2_cutAt_0 rfl (lv_at hl 0 rfl) ?_
  refine lv_iload_n hx hb dX2_cutAt_1 rfl (lv_at hl 1 rfl) ?_
  refine g_RVi (As := [.int (nI e9)]) (rest := []) ⟨hx, hb, hml, hown, hts⟩ (mt_X2_begins l dC dI cA s.heap.size y0 q1 q2 q3 q4 q5 rn tv sf lf rf nf ct il gf L e9 hR (by first | omega | (simp only [List.length_append, List.length_cons, List.length_nil, List.length_set, turnL_len]; omega)) (by first | omega | (simp only [List.length_append, List.length_cons, List.length_nil, List.length_set, turnL_len]; omega)) (by first | omega | (simp only [List.length_append, List.length_cons, List.length_nil, List.length_set, turnL_len]; omega))) (cwV 1 hts gX2_cutAt_X2_begins rfl rfl rfl hdX2_begins ⟨Nat.le_of_ble_eq_true rfl, Nat.le_of_ble_eq_true rfl⟩) hP hK hD [0, 1, 2, 3, 4, 5] (by decide) rfl (va_recv hK hP (ci := 2) (q0 := 0) rfl rfl) rfl hl.1 rfl (Nat.le_of_ble_eq_true rfl) dX2_cutAt_2 (Nat.zero_le _) (Nat.zero_le _) ?_
  rw [show oiI (bg L e9) = nI b9 from by rw [hbg]; rfl]
  refine lv_istore_n (lv' := [(2, .int (nI b9)), (0, .ref y0), (1, .int (nI e9))]) hx hb dX2_cutAt_5 rfl hl (by decide) rfl (fun ls hl => ?_)
  refine lv_aload_n hx hb dX2_cutAt_6 rfl (lv_at hl 1 rfl) ?_
  refine va_get (D := (dC, dI)) (ci := 2) (v := .ref q3) (C := RX2) (T := TX2) (N := 10) hx hb hts (in_X2_cutAt_2) hown hK hP 0 rfl rfl 5 (by decide) (hts (.fieldLink RX2 20 "BraidWordsModel" "row" "[I") (List.mem_of_getElem? (i := 1) rfl)) (fun _ h9 => h9) rfl dX2_cutAt_7 ?_
  refine lv_iload_n hx hb dX2_cutAt_10 rfl (lv_at hl 2 rfl) ?_
  refine va_iald hx hb hK hP 3 0 rfl rfl (vp_in_nI (by omega) (by decide)) dX2_cutAt_11 ?_
  rw [show (nI e9).toNatClampNeg = e9 from nI_clamp (by omega)]
  rw [hR.2 e9 (by omega)]
  refine va_mabs hx hb (hml.trans hl.1.symm) hown (hts (.methodLink RX2 47 Lib.Math.abs.name) (List.mem_of_getElem? (i := 2) rfl)) (hts (.static Lib.Math.abs.name) (List.mem_of_getElem? (i := 3) rfl)) (hts (.initialized "java/lang/Math") (List.mem_of_getElem? (i := 4) rfl)) (hts (.code Lib.Math.abs.name Lib.Math.abs.code 1 (some .int)) (List.mem_of_getElem? (i := 5) rfl)) (Nat.le_of_ble_eq_true rfl) (Nat.le_of_ble_eq_true rfl) (Nat.zero_le _) (Nat.zero_le _) dX2_cutAt_12 ?_
  rw [mabs_eq]
  rw [← heb]
  refine lv_istore_n (lv' := [(3, .int (abI (atL L b9))), (2, .int (nI b9)), (0, .ref y0), (1, .int (nI e9))]) hx hb dX2_cutAt_15 rfl hl (by decide) rfl (fun ls hl => ?_)
  have jn30 : W p l e mt_X2_cutAt_rm s m ([.ref y0, .int (nI e9)] : List Value).toArray below meth c s.heap [] 0 0 (MQ below (gM (dC, dI) none (fun u : (Nat → Int32) × (Nat → Int32) => MR (cutL L b9 e9) u.1) (fun u : (Nat → Int32) × (Nat → Int32) => [(y0, .inr (2, [.int tv, .int (nI rn), .ref q1, .ref q2, .int (nI ((cutL L b9 e9).length)), .ref q3, .ref q4, .int ct, .int il, .ref q5])), (q1, .inl (cA, (2, .inl sf))), (q2, .inl (cA, (60, .inl lf))), (q3, .inl (cA, (320, .inl u.1))), (q4, .inl (cA, (320, .inl u.2))), (q5, .inl (cA, (6, .inl gf)))]) A) ([.ref y0, .int (nI e9)] : List Value).toArray s 0 0 A) (F0 m 30 ls [.int (sgI (atL L b9))]) := by
    refine lv_istore (lv' := [(4, .int (sgI (atL L b9))), (3, .int (abI (atL L b9))), (2, .int (nI b9)), (0, .ref y0), (1, .int (nI e9))]) hx hb dX2_cutAt_30 hl (by decide) rfl (fun ls hl => ?_)
    refine lv_iconst (v := 0) hx hb dX2_cutAt_32 (by decide) ?_
    refine lv_istore (lv' := [(5, .int 0), (4, .int (sgI (atL L b9))), (3, .int (abI (atL L b9))), (2, .int (nI b9)), (0, .ref y0), (1, .int (nI e9))]) hx hb dX2_cutAt_33 hl (by decide) rfl (fun ls hl => ?_)
    refine lv_iconst (v := 0) hx hb dX2_cutAt_35 (by decide) ?_
    refine lv_istore (lv' := [(6, .int 0), (5, .int 0), (4, .int (sgI (atL L b9))), (3, .int (abI (atL L b9))), (2, .int (nI b9)), (0, .ref y0), (1, .int (nI e9))]) hx hb dX2_cutAt_36 hl (by decide) rfl (fun ls hl => ?_)
    have lp38 : ∀ (d : Nat) (k : Nat) (Sk : List Int32) (nk : Nat → Int32) (hk9 : k ≤ L.length) (hSk : Sk = ckL L b9 e9 k) (hRk : MR Sk nk), L.length - k < d → ∀ (H : Heap) (locs : List Loc), va_P (dC, dI) vwCl [(y0, .inr (2, [.int tv, .int (nI rn), .ref q1, .ref q2, .int (nI L.length), .ref q3, .ref q4, .int ct, .int il, .ref q5])), (q1, .inl (cA, (2, .inl sf))), (q2, .inl (cA, (60, .inl lf))), (q3, .inl (cA, (320, .inl rf))), (q4, .inl (cA, (320, .inl nk))), (q5, .inl (cA, (6, .inl gf)))] H → va_D A [(y0, .inr (2, [.int tv, .int (nI rn), .ref q1, .ref q2, .int (nI L.length), .ref q3, .ref q4, .int ct, .int il, .ref q5])), (q1, .inl (cA, (2, .inl sf))), (q2, .inl (cA, (60, .inl lf))), (q3, .inl (cA, (320, .inl rf))), (q4, .inl (cA, (320, .inl nk))), (q5, .inl (cA, (6, .inl gf)))] → va_S A s.heap H locs → ∀ ls : Array Slot, lv_has ls 8 [(6, .int (nI k)), (5, .int (nI Sk.length)), (4, .int (sgI (atL L b9))), (3, .int (abI (atL L b9))), (2, .int (nI b9)), (0, .ref y0), (1, .int (nI e9))] → W p l e mt_X2_cutAt_rm s m ([.ref y0, .int (nI e9)] : List Value).toArray below meth c H locs 0 0 (MQ below (gM (dC, dI) none (fun u : (Nat → Int32) × (Nat → Int32) => MR (cutL L b9 e9) u.1) (fun u : (Nat → Int32) × (Nat → Int32) => [(y0, .inr (2, [.int tv, .int (nI rn), .ref q1, .ref q2, .int (nI ((cutL L b9 e9).length)), .ref q3, .ref q4, .int ct, .int il, .ref q5])), (q1, .inl (cA, (2, .inl sf))), (q2, .inl (cA, (60, .inl lf))), (q3, .inl (cA, (320, .inl u.1))), (q4, .inl (cA, (320, .inl u.2))), (q5, .inl (cA, (6, .inl gf)))]) A) ([.ref y0, .int (nI e9)] : List Value).toArray s 0 0 A) (F0 m 38 ls []) := by
      intro d
      induction d with
      | zero => intro k Sk nk hk9 hSk hRk hd; exact absurd hd (Nat.not_lt_zero _)
      | succ d ih38 =>
        intro k Sk nk hk9 hSk hRk hd H locs hP hD hS ls hl
        have hskl : Sk.length ≤ (cutL L b9 e9).length := by rw [hSk]; exact ckL_mono hk9
        refine lv_iload hx hb dX2_cutAt_38 (lv_at hl 0 rfl) ?_
        refine lv_aload_n hx hb dX2_cutAt_40 rfl (lv_at hl 5 rfl) ?_
        refine va_get (D := (dC, dI)) (ci := 2) (v := .int (nI L.length)) (C := RX2) (T := TX2) (N := 10) hx hb hts (in_X2_cutAt_2) hown hK hP 0 rfl rfl 4 (by decide) (hts (.fieldLink RX2 36 "BraidWordsModel" "many" "I") (List.mem_of_getElem? (i := 6) rfl)) (fun _ h9 => h9) rfl dX2_cutAt_41 ?_
        refine lv_icmp_ge (tgt := 167) hx hb dX2_cutAt_44 (by decide) (fun c44 => ?_) (fun c44 => ?_)
        · have c44 : L.length ≤ k := g_geT k L.length (by omega) (by omega) c44
          obtain rfl : k = L.length := by omega
          obtain rfl : Sk = cutL L b9 e9 := hSk
          refine lv_aload_n hx hb dX2_cutAt_167 rfl (lv_at hl 5 rfl) ?_
          refine va_get (D := (dC, dI)) (ci := 2) (v := .ref q4) (C := RX2) (T := TX2) (N := 10) hx hb hts (in_X2_cutAt_2) hown hK hP 0 rfl rfl 6 (by decide) (hts (.fieldLink RX2 23 "BraidWordsModel" "next" "[I") (List.mem_of_getElem? (i := 7) rfl)) (fun _ h9 => h9) rfl dX2_cutAt_168 ?_
          refine lv_iconst (v := 0) hx hb dX2_cutAt_171 (by decide) ?_
          refine lv_aload_n hx hb dX2_cutAt_172 rfl (lv_at hl 5 rfl) ?_
          refine va_get (D := (dC, dI)) (ci := 2) (v := .ref q3) (C := RX2) (T := TX2) (N := 10) hx hb hts (in_X2_cutAt_2) hown hK hP 0 rfl rfl 5 (by decide) (hts (.fieldLink RX2 20 "BraidWordsModel" "row" "[I") (List.mem_of_getElem? (i := 1) rfl)) (fun _ h9 => h9) rfl dX2_cutAt_173 ?_
          refine lv_iconst (v := 0) hx hb dX2_cutAt_176 (by decide) ?_
          refine lv_iload hx hb dX2_cutAt_177 (lv_at hl 1 rfl) ?_
          refine va_copyi hx hb (hml.trans hl.1.symm) hown (hts (.methodLink RX2 56 arraycopyName) (List.mem_of_getElem? (i := 8) rfl)) (hts (.native arraycopyName) (List.mem_of_getElem? (i := 9) rfl)) (hts (.static arraycopyName) (List.mem_of_getElem? (i := 10) rfl)) (hts (.initialized "java/lang/System") (List.mem_of_getElem? (i := 11) rfl)) hK hP hD hS 4 3 0 0 rfl rfl rfl rfl rfl (by decide) (by decide) (nI_pos (by omega)) (by rw [sb_cl0, nI_clamp (by omega)]; omega) (by rw [sb_cl0, nI_clamp (by omega)]; omega) (fun _ _ => rfl) (Nat.le_of_ble_eq_true rfl) (Nat.le_of_ble_eq_true rfl) dX2_cutAt_179 (fun H locs hP hD hS => ?_)
          rw [sb_cl0, nI_clamp (show (cutL L b9 e9).length < 2 ^ 31 by omega)] at hP hD
          have hP : va_P (dC, dI) vwCl [(y0, .inr (2, [.int tv, .int (nI rn), .ref q1, .ref q2, .int (nI L.length), .ref q3, .ref q4, .int ct, .int il, .ref q5])), (q1, .inl (cA, (2, .inl sf))), (q2, .inl (cA, (60, .inl lf))), (q3, .inl (cA, (320, .inl (va_cpy nk rf 0 0 ((cutL L b9 e9).length))))), (q4, .inl (cA, (320, .inl nk))), (q5, .inl (cA, (6, .inl gf)))] H := hP
          have hD : va_D A [(y0, .inr (2, [.int tv, .int (nI rn), .ref q1, .ref q2, .int (nI L.length), .ref q3, .ref q4, .int ct, .int il, .ref q5])), (q1, .inl (cA, (2, .inl sf))), (q2, .inl (cA, (60, .inl lf))), (q3, .inl (cA, (320, .inl (va_cpy nk rf 0 0 ((cutL L b9 e9).length))))), (q4, .inl (cA, (320, .inl nk))), (q5, .inl (cA, (6, .inl gf)))] := hD
          refine lv_aload_n hx hb dX2_cutAt_182 rfl (lv_at hl 5 rfl) ?_
          refine lv_iload hx hb dX2_cutAt_183 (lv_at hl 1 rfl) ?_
          refine va_put (D := (dC, dI)) (ci := 2) (v := .int (nI ((cutL L b9 e9).length))) (ty := .int) (C := RX2) (T := TX2) (N := 10) hx hb hts (in_X2_cutAt_2) tyX2 tyX2_ok nmX2 hown hK hP hD hS 0 rfl rfl 4 (by decide) (hts (.fieldLink RX2 36 "BraidWordsModel" "many" "I") (List.mem_of_getElem? (i := 6) rfl)) (fun _ h9 => h9) rfl (by decide +kernel) rfl rfl (Nat.le_of_ble_eq_true rfl) dX2_cutAt_185 (fun H locs hP hD hS => ?_)
          have hP : va_P (dC, dI) vwCl [(y0, .inr (2, [.int tv, .int (nI rn), .ref q1, .ref q2, .int (nI ((cutL L b9 e9).length)), .ref q3, .ref q4, .int ct, .int il, .ref q5])), (q1, .inl (cA, (2, .inl sf))), (q2, .inl (cA, (60, .inl lf))), (q3, .inl (cA, (320, .inl (va_cpy nk rf 0 0 ((cutL L b9 e9).length))))), (q4, .inl (cA, (320, .inl nk))), (q5, .inl (cA, (6, .inl gf)))] H := hP
          have hD : va_D A [(y0, .inr (2, [.int tv, .int (nI rn), .ref q1, .ref q2, .int (nI ((cutL L b9 e9).length)), .ref q3, .ref q4, .int ct, .int il, .ref q5])), (q1, .inl (cA, (2, .inl sf))), (q2, .inl (cA, (60, .inl lf))), (q3, .inl (cA, (320, .inl (va_cpy nk rf 0 0 ((cutL L b9 e9).length))))), (q4, .inl (cA, (320, .inl nk))), (q5, .inl (cA, (6, .inl gf)))] := hD
          exact g_endMv hx hb hr hlocks hP hS dX2_cutAt_188 (va_cpy nk rf 0 0 ((cutL L b9 e9).length), nk) rfl (MR_copy hRk)
        · have c44 : k < L.length := g_geF k L.length (by omega) (by omega) c44
          refine lv_iload hx hb dX2_cutAt_47 (lv_at hl 0 rfl) ?_
          refine lv_iload_n hx hb dX2_cutAt_49 rfl (lv_at hl 4 rfl) ?_
          refine lv_icmp_eq (tgt := 161) hx hb dX2_cutAt_50 (by decide) (fun c50 => ?_) (fun c50 => ?_)
          · have c50 : k = b9 := g_eqT k b9 (by omega) (by omega) c50
            refine lv_iinc (v := nI (k + 1)) (lv' := [(6, .int (nI (k + 1))), (5, .int (nI Sk.length)), (4, .int (sgI (atL L b9))), (3, .int (abI (atL L b9))), (2, .int (nI b9)), (0, .ref y0), (1, .int (nI e9))]) hx hb dX2_cutAt_161 hl (k := 0) rfl (g_inc _) (by decide) rfl (fun ls hl => ?_)
            refine lv_goto (tgt := 38) hx hb dX2_cutAt_164 (by decide) ?_
            exact ih38 (k + 1) Sk nk (by omega) (by rw [hSk]; first | exact (ckL_three (by omega) (by omega) c91).symm | exact (ckL_skip (by omega)).symm | exact (ckL_one (by omega) (by omega) (fun q => absurd q.1 (by omega))).symm | exact (ckL_one (by omega) (by omega) (fun q => absurd q.2.1 (by omega))).symm | exact (ckL_one (by omega) (by omega) (fun q => c91 q.2.2)).symm) hRk (by omega) _ _ hP hD hS _ (lv_sub hl [0, 1, 2, 3, 4, 5, 6] rfl)
          · have c50 : ¬ k = b9 := g_eqF k b9 (by omega) (by omega) c50
            refine lv_iload hx hb dX2_cutAt_53 (lv_at hl 0 rfl) ?_
            refine lv_iload_n hx hb dX2_cutAt_55 rfl (lv_at hl 6 rfl) ?_
            refine lv_icmp_ne (tgt := 62) hx hb dX2_cutAt_56 (by decide) (fun c56 => ?_) (fun c56 => ?_)
            · have c56 : ¬ k = e9 := g_neT k e9 (by omega) (by omega) c56
              refine lv_aload_n hx hb dX2_cutAt_62 rfl (lv_at hl 5 rfl) ?_
              refine va_get (D := (dC, dI)) (ci := 2) (v := .ref q3) (C := RX2) (T := TX2) (N := 10) hx hb hts (in_X2_cutAt_2) hown hK hP 0 rfl rfl 5 (by decide) (hts (.fieldLink RX2 20 "BraidWordsModel" "row" "[I") (List.mem_of_getElem? (i := 1) rfl)) (fun _ h9 => h9) rfl dX2_cutAt_63 ?_
              refine lv_iload hx hb dX2_cutAt_66 (lv_at hl 0 rfl) ?_
              refine va_iald hx hb hK hP 3 0 rfl rfl (vp_in_nI (by omega) (by decide)) dX2_cutAt_68 ?_
              rw [show (nI k).toNatClampNeg = k from nI_clamp (by omega)]
              rw [hR.2 k (by omega)]
              refine lv_istore (lv' := [(7, .int (atL L k)), (6, .int (nI k)), (5, .int (nI Sk.length)), (4, .int (sgI (atL L b9))), (3, .int (abI (atL L b9))), (2, .int (nI b9)), (0, .ref y0), (1, .int (nI e9))]) hx hb dX2_cutAt_69 hl (by decide) rfl (fun ls hl => ?_)
              refine lv_iload hx hb dX2_cutAt_71 (lv_at hl 1 rfl) ?_
              refine lv_iload_n hx hb dX2_cutAt_73 rfl (lv_at hl 5 rfl) ?_
              refine lv_icmp_le (tgt := 149) hx hb dX2_cutAt_74 (by decide) (fun c74 => ?_) (fun c74 => ?_)
              · have c74 : k ≤ b9 := g_leT k b9 (by omega) (by omega) c74
                have hsk1 : (ckL L b9 e9 (k + 1)).length ≤ (cutL L b9 e9).length := ckL_mono (by omega)
                rw [(by first | exact ckL_one (by omega) (by omega) (fun q => absurd q.1 (by omega)) | exact ckL_one (by omega) (by omega) (fun q => absurd q.2.1 (by omega)) | exact ckL_one (by omega) (by omega) (fun q => c91 q.2.2) : ckL L b9 e9 (k + 1) = ckL L b9 e9 k ++ [atL L k]), ← hSk] at hsk1
                simp only [List.length_append, List.length_cons, List.length_nil] at hsk1
                refine lv_aload_n hx hb dX2_cutAt_149 rfl (lv_at hl 6 rfl) ?_
                refine va_get (D := (dC, dI)) (ci := 2) (v := .ref q4) (C := RX2) (T := TX2) (N := 10) hx hb hts (in_X2_cutAt_2) hown hK hP 0 rfl rfl 6 (by decide) (hts (.fieldLink RX2 23 "BraidWordsModel" "next" "[I") (List.mem_of_getElem? (i := 7) rfl)) (fun _ h9 => h9) rfl dX2_cutAt_150 ?_
                refine lv_iload hx hb dX2_cutAt_153 (lv_at hl 2 rfl) ?_
                refine lv_iload hx hb dX2_cutAt_155 (lv_at hl 0 rfl) ?_
                refine va_iast hx hb hK hP hD hS 4 0 rfl rfl (vp_in_nI (by omega) (by decide)) dX2_cutAt_157 (fun H locs hP hD hS => ?_)
                rw [show (nI Sk.length).toNatClampNeg = Sk.length from nI_clamp (by omega)] at hP hD
                have hP : va_P (dC, dI) vwCl [(y0, .inr (2, [.int tv, .int (nI rn), .ref q1, .ref q2, .int (nI L.length), .ref q3, .ref q4, .int ct, .int il, .ref q5])), (q1, .inl (cA, (2, .inl sf))), (q2, .inl (cA, (60, .inl lf))), (q3, .inl (cA, (320, .inl rf))), (q4, .inl (cA, (320, .inl (upd nk Sk.length (atL L k))))), (q5, .inl (cA, (6, .inl gf)))] H := hP
                have hD : va_D A [(y0, .inr (2, [.int tv, .int (nI rn), .ref q1, .ref q2, .int (nI L.length), .ref q3, .ref q4, .int ct, .int il, .ref q5])), (q1, .inl (cA, (2, .inl sf))), (q2, .inl (cA, (60, .inl lf))), (q3, .inl (cA, (320, .inl rf))), (q4, .inl (cA, (320, .inl (upd nk Sk.length (atL L k))))), (q5, .inl (cA, (6, .inl gf)))] := hD
                refine lv_iinc (v := nI (Sk.length + 1)) (lv' := [(5, .int (nI (Sk.length + 1))), (7, .int (atL L k)), (6, .int (nI k)), (4, .int (sgI (atL L b9))), (3, .int (abI (atL L b9))), (2, .int (nI b9)), (0, .ref y0), (1, .int (nI e9))]) hx hb dX2_cutAt_158 hl (k := 2) rfl (g_inc _) (by decide) rfl (fun ls hl => ?_)
                refine lv_iinc (v := nI (k + 1)) (lv' := [(6, .int (nI (k + 1))), (5, .int (nI (Sk.length + 1))), (7, .int (atL L k)), (4, .int (sgI (atL L b9))), (3, .int (abI (atL L b9))), (2, .int (nI b9)), (0, .ref y0), (1, .int (nI e9))]) hx hb dX2_cutAt_161 hl (k := 2) rfl (g_inc _) (by decide) rfl (fun ls hl => ?_)
                refine lv_goto (tgt := 38) hx hb dX2_cutAt_164 (by decide) ?_
                rw [show Sk.length + 1 = (Sk ++ [atL L k]).length from by simp only [List.length_append, List.length_cons, List.length_nil]] at hl
                exact ih38 (k + 1) (Sk ++ [atL L k]) (upd nk Sk.length (atL L k)) (by omega) (by rw [hSk]; first | exact (ckL_three (by omega) (by omega) c91).symm | exact (ckL_skip (by omega)).symm | exact (ckL_one (by omega) (by omega) (fun q => absurd q.1 (by omega))).symm | exact (ckL_one (by omega) (by omega) (fun q => absurd q.2.1 (by omega))).symm | exact (ckL_one (by omega) (by omega) (fun q => c91 q.2.2)).symm) (MR_push hRk (by omega)) (by omega) _ _ hP hD hS _ (lv_sub hl [0, 1, 3, 4, 5, 6, 7] rfl)
              · have c74 : b9 < k := g_leF k b9 (by omega) (by omega) c74
                refine lv_iload hx hb dX2_cutAt_77 (lv_at hl 1 rfl) ?_
                refine lv_iload_n hx hb dX2_cutAt_79 rfl (lv_at hl 7 rfl) ?_
                refine lv_icmp_ge (tgt := 149) hx hb dX2_cutAt_80 (by decide) (fun c80 => ?_) (fun c80 => ?_)
                · have c80 : e9 ≤ k := g_geT k e9 (by omega) (by omega) c80
                  have hsk1 : (ckL L b9 e9 (k + 1)).length ≤ (cutL L b9 e9).length := ckL_mono (by omega)
                  rw [(by first | exact ckL_one (by omega) (by omega) (fun q => absurd q.1 (by omega)) | exact ckL_one (by omega) (by omega) (fun q => absurd q.2.1 (by omega)) | exact ckL_one (by omega) (by omega) (fun q => c91 q.2.2) : ckL L b9 e9 (k + 1) = ckL L b9 e9 k ++ [atL L k]), ← hSk] at hsk1
                  simp only [List.length_append, List.length_cons, List.length_nil] at hsk1
                  refine lv_aload_n hx hb dX2_cutAt_149 rfl (lv_at hl 6 rfl) ?_
                  refine va_get (D := (dC, dI)) (ci := 2) (v := .ref q4) (C := RX2) (T := TX2) (N := 10) hx hb hts (in_X2_cutAt_2) hown hK hP 0 rfl rfl 6 (by decide) (hts (.fieldLink RX2 23 "BraidWordsModel" "next" "[I") (List.mem_of_getElem? (i := 7) rfl)) (fun _ h9 => h9) rfl dX2_cutAt_150 ?_
                  refine lv_iload hx hb dX2_cutAt_153 (lv_at hl 2 rfl) ?_
                  refine lv_iload hx hb dX2_cutAt_155 (lv_at hl 0 rfl) ?_
                  refine va_iast hx hb hK hP hD hS 4 0 rfl rfl (vp_in_nI (by omega) (by decide)) dX2_cutAt_157 (fun H locs hP hD hS => ?_)
                  rw [show (nI Sk.length).toNatClampNeg = Sk.length from nI_clamp (by omega)] at hP hD
                  have hP : va_P (dC, dI) vwCl [(y0, .inr (2, [.int tv, .int (nI rn), .ref q1, .ref q2, .int (nI L.length), .ref q3, .ref q4, .int ct, .int il, .ref q5])), (q1, .inl (cA, (2, .inl sf))), (q2, .inl (cA, (60, .inl lf))), (q3, .inl (cA, (320, .inl rf))), (q4, .inl (cA, (320, .inl (upd nk Sk.length (atL L k))))), (q5, .inl (cA, (6, .inl gf)))] H := hP
                  have hD : va_D A [(y0, .inr (2, [.int tv, .int (nI rn), .ref q1, .ref q2, .int (nI L.length), .ref q3, .ref q4, .int ct, .int il, .ref q5])), (q1, .inl (cA, (2, .inl sf))), (q2, .inl (cA, (60, .inl lf))), (q3, .inl (cA, (320, .inl rf))), (q4, .inl (cA, (320, .inl (upd nk Sk.length (atL L k))))), (q5, .inl (cA, (6, .inl gf)))] := hD
                  refine lv_iinc (v := nI (Sk.length + 1)) (lv' := [(5, .int (nI (Sk.length + 1))), (7, .int (atL L k)), (6, .int (nI k)), (4, .int (sgI (atL L b9))), (3, .int (abI (atL L b9))), (2, .int (nI b9)), (0, .ref y0), (1, .int (nI e9))]) hx hb dX2_cutAt_158 hl (k := 2) rfl (g_inc _) (by decide) rfl (fun ls hl => ?_)
                  refine lv_iinc (v := nI (k + 1)) (lv' := [(6, .int (nI (k + 1))), (5, .int (nI (Sk.length + 1))), (7, .int (atL L k)), (4, .int (sgI (atL L b9))), (3, .int (abI (atL L b9))), (2, .int (nI b9)), (0, .ref y0), (1, .int (nI e9))]) hx hb dX2_cutAt_161 hl (k := 2) rfl (g_inc _) (by decide) rfl (fun ls hl => ?_)
                  refine lv_goto (tgt := 38) hx hb dX2_cutAt_164 (by decide) ?_
                  rw [show Sk.length + 1 = (Sk ++ [atL L k]).length from by simp only [List.length_append, List.length_cons, List.length_nil]] at hl
                  exact ih38 (k + 1) (Sk ++ [atL L k]) (upd nk Sk.length (atL L k)) (by omega) (by rw [hSk]; first | exact (ckL_three (by omega) (by omega) c91).symm | exact (ckL_skip (by omega)).symm | exact (ckL_one (by omega) (by omega) (fun q => absurd q.1 (by omega))).symm | exact (ckL_one (by omega) (by omega) (fun q => absurd q.2.1 (by omega))).symm | exact (ckL_one (by omega) (by omega) (fun q => c91 q.2.2)).symm) (MR_push hRk (by omega)) (by omega) _ _ hP hD hS _ (lv_sub hl [0, 1, 3, 4, 5, 6, 7] rfl)
                · have c80 : k < e9 := g_geF k e9 (by omega) (by omega) c80
                  refine lv_iload hx hb dX2_cutAt_83 (lv_at hl 0 rfl) ?_
                  refine va_mabs hx hb (hml.trans hl.1.symm) hown (hts (.methodLink RX2 47 Lib.Math.abs.name) (List.mem_of_getElem? (i := 2) rfl)) (hts (.static Lib.Math.abs.name) (List.mem_of_getElem? (i := 3) rfl)) (hts (.initialized "java/lang/Math") (List.mem_of_getElem? (i := 4) rfl)) (hts (.code Lib.Math.abs.name Lib.Math.abs.code 1 (some .int)) (List.mem_of_getElem? (i := 5) rfl)) (Nat.le_of_ble_eq_true rfl) (Nat.le_of_ble_eq_true rfl) (Nat.zero_le _) (Nat.zero_le _) dX2_cutAt_85 ?_
                  rw [mabs_eq]
                  refine lv_iload_n hx hb dX2_cutAt_88 rfl (lv_at hl 4 rfl) ?_
                  refine lv_iconst (v := 1) hx hb dX2_cutAt_89 (by decide) ?_
                  refine lv_iadd hx hb dX2_cutAt_90 ?_
                  refine lv_icmp_ne (tgt := 149) hx hb dX2_cutAt_91 (by decide) (fun c91 => ?_) (fun c91 => ?_)
                  · have hsk1 : (ckL L b9 e9 (k + 1)).length ≤ (cutL L b9 e9).length := ckL_mono (by omega)
                    rw [(by first | exact ckL_one (by omega) (by omega) (fun q => absurd q.1 (by omega)) | exact ckL_one (by omega) (by omega) (fun q => absurd q.2.1 (by omega)) | exact ckL_one (by omega) (by omega) (fun q => c91 q.2.2) : ckL L b9 e9 (k + 1) = ckL L b9 e9 k ++ [atL L k]), ← hSk] at hsk1
                    simp only [List.length_append, List.length_cons, List.length_nil] at hsk1
                    refine lv_aload_n hx hb dX2_cutAt_149 rfl (lv_at hl 6 rfl) ?_
                    refine va_get (D := (dC, dI)) (ci := 2) (v := .ref q4) (C := RX2) (T := TX2) (N := 10) hx hb hts (in_X2_cutAt_2) hown hK hP 0 rfl rfl 6 (by decide) (hts (.fieldLink RX2 23 "BraidWordsModel" "next" "[I") (List.mem_of_getElem? (i := 7) rfl)) (fun _ h9 => h9) rfl dX2_cutAt_150 ?_
                    refine lv_iload hx hb dX2_cutAt_153 (lv_at hl 2 rfl) ?_
                    refine lv_iload hx hb dX2_cutAt_155 (lv_at hl 0 rfl) ?_
                    refine va_iast hx hb hK hP hD hS 4 0 rfl rfl (vp_in_nI (by omega) (by decide)) dX2_cutAt_157 (fun H locs hP hD hS => ?_)
                    rw [show (nI Sk.length).toNatClampNeg = Sk.length from nI_clamp (by omega)] at hP hD
                    have hP : va_P (dC, dI) vwCl [(y0, .inr (2, [.int tv, .int (nI rn), .ref q1, .ref q2, .int (nI L.length), .ref q3, .ref q4, .int ct, .int il, .ref q5])), (q1, .inl (cA, (2, .inl sf))), (q2, .inl (cA, (60, .inl lf))), (q3, .inl (cA, (320, .inl rf))), (q4, .inl (cA, (320, .inl (upd nk Sk.length (atL L k))))), (q5, .inl (cA, (6, .inl gf)))] H := hP
                    have hD : va_D A [(y0, .inr (2, [.int tv, .int (nI rn), .ref q1, .ref q2, .int (nI L.length), .ref q3, .ref q4, .int ct, .int il, .ref q5])), (q1, .inl (cA, (2, .inl sf))), (q2, .inl (cA, (60, .inl lf))), (q3, .inl (cA, (320, .inl rf))), (q4, .inl (cA, (320, .inl (upd nk Sk.length (atL L k))))), (q5, .inl (cA, (6, .inl gf)))] := hD
                    refine lv_iinc (v := nI (Sk.length + 1)) (lv' := [(5, .int (nI (Sk.length + 1))), (7, .int (atL L k)), (6, .int (nI k)), (4, .int (sgI (atL L b9))), (3, .int (abI (atL L b9))), (2, .int (nI b9)), (0, .ref y0), (1, .int (nI e9))]) hx hb dX2_cutAt_158 hl (k := 2) rfl (g_inc _) (by decide) rfl (fun ls hl => ?_)
                    refine lv_iinc (v := nI (k + 1)) (lv' := [(6, .int (nI (k + 1))), (5, .int (nI (Sk.length + 1))), (7, .int (atL L k)), (4, .int (sgI (atL L b9))), (3, .int (abI (atL L b9))), (2, .int (nI b9)), (0, .ref y0), (1, .int (nI e9))]) hx hb dX2_cutAt_161 hl (k := 2) rfl (g_inc _) (by decide) rfl (fun ls hl => ?_)
                    refine lv_goto (tgt := 38) hx hb dX2_cutAt_164 (by decide) ?_
                    rw [show Sk.length + 1 = (Sk ++ [atL L k]).length from by simp only [List.length_append, List.length_cons, List.length_nil]] at hl
                    exact ih38 (k + 1) (Sk ++ [atL L k]) (upd nk Sk.length (atL L k)) (by omega) (by rw [hSk]; first | exact (ckL_three (by omega) (by omega) c91).symm | exact (ckL_skip (by omega)).symm | exact (ckL_one (by omega) (by omega) (fun q => absurd q.1 (by omega))).symm | exact (ckL_one (by omega) (by omega) (fun q => absurd q.2.1 (by omega))).symm | exact (ckL_one (by omega) (by omega) (fun q => c91 q.2.2)).symm) (MR_push hRk (by omega)) (by omega) _ _ hP hD hS _ (lv_sub hl [0, 1, 3, 4, 5, 6, 7] rfl)
                  · have hsk3 : (ckL L b9 e9 (k + 1)).length ≤ (cutL L b9 e9).length := ckL_mono (by omega)
                    rw [ckL_three (by omega) (by omega) c91, ← hSk] at hsk3
                    simp only [List.length_append, List.length_cons, List.length_nil] at hsk3
                    refine lv_aload_n hx hb dX2_cutAt_94 rfl (lv_at hl 6 rfl) ?_
                    refine va_get (D := (dC, dI)) (ci := 2) (v := .ref q4) (C := RX2) (T := TX2) (N := 10) hx hb hts (in_X2_cutAt_2) hown hK hP 0 rfl rfl 6 (by decide) (hts (.fieldLink RX2 23 "BraidWordsModel" "next" "[I") (List.mem_of_getElem? (i := 7) rfl)) (fun _ h9 => h9) rfl dX2_cutAt_95 ?_
                    refine lv_iload hx hb dX2_cutAt_98 (lv_at hl 2 rfl) ?_
                    refine lv_iload hx hb dX2_cutAt_100 (lv_at hl 3 rfl) ?_
                    refine lv_ineg hx hb dX2_cutAt_102 ?_
                    refine lv_iload_n hx hb dX2_cutAt_103 rfl (lv_at hl 4 rfl) ?_
                    refine lv_iconst (v := 1) hx hb dX2_cutAt_104 (by decide) ?_
                    refine lv_iadd hx hb dX2_cutAt_105 ?_
                    refine lv_imul hx hb dX2_cutAt_106 ?_
                    refine va_iast hx hb hK hP hD hS 4 0 rfl rfl (vp_in_nI (by omega) (by decide)) dX2_cutAt_107 (fun H locs hP hD hS => ?_)
                    rw [show (nI Sk.length).toNatClampNeg = Sk.length from nI_clamp (by omega)] at hP hD
                    have hP : va_P (dC, dI) vwCl [(y0, .inr (2, [.int tv, .int (nI rn), .ref q1, .ref q2, .int (nI L.length), .ref q3, .ref q4, .int ct, .int il, .ref q5])), (q1, .inl (cA, (2, .inl sf))), (q2, .inl (cA, (60, .inl lf))), (q3, .inl (cA, (320, .inl rf))), (q4, .inl (cA, (320, .inl (upd nk Sk.length ((-(sgI (atL L b9))) * ((abI (atL L b9)) + 1)))))), (q5, .inl (cA, (6, .inl gf)))] H := hP
                    have hD : va_D A [(y0, .inr (2, [.int tv, .int (nI rn), .ref q1, .ref q2, .int (nI L.length), .ref q3, .ref q4, .int ct, .int il, .ref q5])), (q1, .inl (cA, (2, .inl sf))), (q2, .inl (cA, (60, .inl lf))), (q3, .inl (cA, (320, .inl rf))), (q4, .inl (cA, (320, .inl (upd nk Sk.length ((-(sgI (atL L b9))) * ((abI (atL L b9)) + 1)))))), (q5, .inl (cA, (6, .inl gf)))] := hD
                    refine lv_aload_n hx hb dX2_cutAt_108 rfl (lv_at hl 6 rfl) ?_
                    refine va_get (D := (dC, dI)) (ci := 2) (v := .ref q4) (C := RX2) (T := TX2) (N := 10) hx hb hts (in_X2_cutAt_2) hown hK hP 0 rfl rfl 6 (by decide) (hts (.fieldLink RX2 23 "BraidWordsModel" "next" "[I") (List.mem_of_getElem? (i := 7) rfl)) (fun _ h9 => h9) rfl dX2_cutAt_109 ?_
                    refine lv_iload hx hb dX2_cutAt_112 (lv_at hl 2 rfl) ?_
                    refine lv_iconst (v := 1) hx hb dX2_cutAt_114 (by decide) ?_
                    refine lv_iadd hx hb dX2_cutAt_115 ?_
                    rw [show (nI Sk.length) + 1 = nI (Sk.length + 1) from nI_add Sk.length 1]
                    refine lv_iload hx hb dX2_cutAt_116 (lv_at hl 0 rfl) ?_
                    refine lv_if_le (tgt := 125) hx hb dX2_cutAt_118 (by decide) (fun c118 => ?_) (fun c118 => ?_)
                    · refine lv_iload_n hx hb dX2_cutAt_125 rfl (lv_at hl 4 rfl) ?_
                      refine lv_ineg hx hb dX2_cutAt_126 ?_
                      refine lv_topi (fun tp_1 etp_1 => ?_)
                      obtain rfl : tp_1 = sgI (atL L k) * abI (atL L b9) := etp_1.trans (by rw [ok_sgn rn hrn _ (okL_at hok (show k < L.length by omega)) c118, Int32.neg_mul, Int32.one_mul])
                      refine va_iast hx hb hK hP hD hS 4 0 rfl rfl (vp_in_nI (by omega) (by decide)) dX2_cutAt_127 (fun H locs hP hD hS => ?_)
                      rw [show (nI (Sk.length + 1)).toNatClampNeg = Sk.length + 1 from nI_clamp (by omega)] at hP hD
                      have hP : va_P (dC, dI) vwCl [(y0, .inr (2, [.int tv, .int (nI rn), .ref q1, .ref q2, .int (nI L.length), .ref q3, .ref q4, .int ct, .int il, .ref q5])), (q1, .inl (cA, (2, .inl sf))), (q2, .inl (cA, (60, .inl lf))), (q3, .inl (cA, (320, .inl rf))), (q4, .inl (cA, (320, .inl (upd (upd nk Sk.length ((-(sgI (atL L b9))) * ((abI (atL L b9)) + 1))) (Sk.length + 1) (sgI (atL L k) * abI (atL L b9)))))), (q5, .inl (cA, (6, .inl gf)))] H := hP
                      have hD : va_D A [(y0, .inr (2, [.int tv, .int (nI rn), .ref q1, .ref q2, .int (nI L.length), .ref q3, .ref q4, .int ct, .int il, .ref q5])), (q1, .inl (cA, (2, .inl sf))), (q2, .inl (cA, (60, .inl lf))), (q3, .inl (cA, (320, .inl rf))), (q4, .inl (cA, (320, .inl (upd (upd nk Sk.length ((-(sgI (atL L b9))) * ((abI (atL L b9)) + 1))) (Sk.length + 1) (sgI (atL L k) * abI (atL L b9)))))), (q5, .inl (cA, (6, .inl gf)))] := hD
                      refine lv_aload_n hx hb dX2_cutAt_128 rfl (lv_at hl 6 rfl) ?_
                      refine va_get (D := (dC, dI)) (ci := 2) (v := .ref q4) (C := RX2) (T := TX2) (N := 10) hx hb hts (in_X2_cutAt_2) hown hK hP 0 rfl rfl 6 (by decide) (hts (.fieldLink RX2 23 "BraidWordsModel" "next" "[I") (List.mem_of_getElem? (i := 7) rfl)) (fun _ h9 => h9) rfl dX2_cutAt_129 ?_
                      refine lv_iload hx hb dX2_cutAt_132 (lv_at hl 2 rfl) ?_
                      refine lv_iconst (v := 2) hx hb dX2_cutAt_134 (by decide) ?_
                      refine lv_iadd hx hb dX2_cutAt_135 ?_
                      rw [show (nI Sk.length) + 2 = nI (Sk.length + 2) from nI_add Sk.length 2]
                      refine lv_iload hx hb dX2_cutAt_136 (lv_at hl 3 rfl) ?_
                      refine lv_iload_n hx hb dX2_cutAt_138 rfl (lv_at hl 4 rfl) ?_
                      refine lv_iconst (v := 1) hx hb dX2_cutAt_139 (by decide) ?_
                      refine lv_iadd hx hb dX2_cutAt_140 ?_
                      refine lv_imul hx hb dX2_cutAt_141 ?_
                      refine va_iast hx hb hK hP hD hS 4 0 rfl rfl (vp_in_nI (by omega) (by decide)) dX2_cutAt_142 (fun H locs hP hD hS => ?_)
                      rw [show (nI (Sk.length + 2)).toNatClampNeg = Sk.length + 2 from nI_clamp (by omega)] at hP hD
                      have hP : va_P (dC, dI) vwCl [(y0, .inr (2, [.int tv, .int (nI rn), .ref q1, .ref q2, .int (nI L.length), .ref q3, .ref q4, .int ct, .int il, .ref q5])), (q1, .inl (cA, (2, .inl sf))), (q2, .inl (cA, (60, .inl lf))), (q3, .inl (cA, (320, .inl rf))), (q4, .inl (cA, (320, .inl (upd (upd (upd nk Sk.length ((-(sgI (atL L b9))) * ((abI (atL L b9)) + 1))) (Sk.length + 1) (sgI (atL L k) * abI (atL L b9))) (Sk.length + 2) ((sgI (atL L b9)) * ((abI (atL L b9)) + 1)))))), (q5, .inl (cA, (6, .inl gf)))] H := hP
                      have hD : va_D A [(y0, .inr (2, [.int tv, .int (nI rn), .ref q1, .ref q2, .int (nI L.length), .ref q3, .ref q4, .int ct, .int il, .ref q5])), (q1, .inl (cA, (2, .inl sf))), (q2, .inl (cA, (60, .inl lf))), (q3, .inl (cA, (320, .inl rf))), (q4, .inl (cA, (320, .inl (upd (upd (upd nk Sk.length ((-(sgI (atL L b9))) * ((abI (atL L b9)) + 1))) (Sk.length + 1) (sgI (atL L k) * abI (atL L b9))) (Sk.length + 2) ((sgI (atL L b9)) * ((abI (atL L b9)) + 1)))))), (q5, .inl (cA, (6, .inl gf)))] := hD
                      refine lv_iinc (v := nI (Sk.length + 3)) (lv' := [(5, .int (nI (Sk.length + 3))), (7, .int (atL L k)), (6, .int (nI k)), (4, .int (sgI (atL L b9))), (3, .int (abI (atL L b9))), (2, .int (nI b9)), (0, .ref y0), (1, .int (nI e9))]) hx hb dX2_cutAt_143 hl (k := 2) rfl (nI_add Sk.length 3) (by decide) rfl (fun ls hl => ?_)
                      refine lv_goto (tgt := 161) hx hb dX2_cutAt_146 (by decide) ?_
                      refine lv_iinc (v := nI (k + 1)) (lv' := [(6, .int (nI (k + 1))), (5, .int (nI (Sk.length + 3))), (7, .int (atL L k)), (4, .int (sgI (atL L b9))), (3, .int (abI (atL L b9))), (2, .int (nI b9)), (0, .ref y0), (1, .int (nI e9))]) hx hb dX2_cutAt_161 hl (k := 2) rfl (g_inc _) (by decide) rfl (fun ls hl => ?_)
                      refine lv_goto (tgt := 38) hx hb dX2_cutAt_164 (by decide) ?_
                      rw [show Sk.length + 3 = (Sk ++ [-sgI (atL L b9) * (abI (atL L b9) + 1)] ++ [sgI (atL L k) * abI (atL L b9)] ++ [sgI (atL L b9) * (abI (atL L b9) + 1)]).length from by simp only [List.length_append, List.length_cons, List.length_nil]] at hl
                      exact ih38 (k + 1) (Sk ++ [-sgI (atL L b9) * (abI (atL L b9) + 1)] ++ [sgI (atL L k) * abI (atL L b9)] ++ [sgI (atL L b9) * (abI (atL L b9) + 1)]) (upd (upd (upd nk Sk.length ((-(sgI (atL L b9))) * ((abI (atL L b9)) + 1))) (Sk.length + 1) (sgI (atL L k) * abI (atL L b9))) (Sk.length + 2) ((sgI (atL L b9)) * ((abI (atL L b9)) + 1))) (by omega) (by rw [hSk]; first | exact (ckL_three (by omega) (by omega) c91).symm | exact (ckL_skip (by omega)).symm | exact (ckL_one (by omega) (by omega) (fun q => absurd q.1 (by omega))).symm | exact (ckL_one (by omega) (by omega) (fun q => absurd q.2.1 (by omega))).symm | exact (ckL_one (by omega) (by omega) (fun q => c91 q.2.2)).symm) (MR_push3 hRk (by omega)) (by omega) _ _ hP hD hS _ (lv_sub hl [0, 1, 3, 4, 5, 6, 7] rfl)
                    · refine lv_iload_n hx hb dX2_cutAt_121 rfl (lv_at hl 4 rfl) ?_
                      refine lv_goto (tgt := 127) hx hb dX2_cutAt_122 (by decide) ?_
                      refine lv_topi (fun tp_2 etp_2 => ?_)
                      obtain rfl : tp_2 = sgI (atL L k) * abI (atL L b9) := etp_2.trans (by rw [ok_sgp rn hrn _ (okL_at hok (show k < L.length by omega)) c118, Int32.one_mul])
                      refine va_iast hx hb hK hP hD hS 4 0 rfl rfl (vp_in_nI (by omega) (by decide)) dX2_cutAt_127 (fun H locs hP hD hS => ?_)
                      rw [show (nI (Sk.length + 1)).toNatClampNeg = Sk.length + 1 from nI_clamp (by omega)] at hP hD
                      have hP : va_P (dC, dI) vwCl [(y0, .inr (2, [.int tv, .int (nI rn), .ref q1, .ref q2, .int (nI L.length), .ref q3, .ref q4, .int ct, .int il, .ref q5])), (q1, .inl (cA, (2, .inl sf))), (q2, .inl (cA, (60, .inl lf))), (q3, .inl (cA, (320, .inl rf))), (q4, .inl (cA, (320, .inl (upd (upd nk Sk.length ((-(sgI (atL L b9))) * ((abI (atL L b9)) + 1))) (Sk.length + 1) (sgI (atL L k) * abI (atL L b9)))))), (q5, .inl (cA, (6, .inl gf)))] H := hP
                      have hD : va_D A [(y0, .inr (2, [.int tv, .int (nI rn), .ref q1, .ref q2, .int (nI L.length), .ref q3, .ref q4, .int ct, .int il, .ref q5])), (q1, .inl (cA, (2, .inl sf))), (q2, .inl (cA, (60, .inl lf))), (q3, .inl (cA, (320, .inl rf))), (q4, .inl (cA, (320, .inl (upd (upd nk Sk.length ((-(sgI (atL L b9))) * ((abI (atL L b9)) + 1))) (Sk.length + 1) (sgI (atL L k) * abI (atL L b9)))))), (q5, .inl (cA, (6, .inl gf)))] := hD
                      refine lv_aload_n hx hb dX2_cutAt_128 rfl (lv_at hl 6 rfl) ?_
                      refine va_get (D := (dC, dI)) (ci := 2) (v := .ref q4) (C := RX2) (T := TX2) (N := 10) hx hb hts (in_X2_cutAt_2) hown hK hP 0 rfl rfl 6 (by decide) (hts (.fieldLink RX2 23 "BraidWordsModel" "next" "[I") (List.mem_of_getElem? (i := 7) rfl)) (fun _ h9 => h9) rfl dX2_cutAt_129 ?_
                      refine lv_iload hx hb dX2_cutAt_132 (lv_at hl 2 rfl) ?_
                      refine lv_iconst (v := 2) hx hb dX2_cutAt_134 (by decide) ?_
                      refine lv_iadd hx hb dX2_cutAt_135 ?_
                      rw [show (nI Sk.length) + 2 = nI (Sk.length + 2) from nI_add Sk.length 2]
                      refine lv_iload hx hb dX2_cutAt_136 (lv_at hl 3 rfl) ?_
                      refine lv_iload_n hx hb dX2_cutAt_138 rfl (lv_at hl 4 rfl) ?_
                      refine lv_iconst (v := 1) hx hb dX2_cutAt_139 (by decide) ?_
                      refine lv_iadd hx hb dX2_cutAt_140 ?_
                      refine lv_imul hx hb dX2_cutAt_141 ?_
                      refine va_iast hx hb hK hP hD hS 4 0 rfl rfl (vp_in_nI (by omega) (by decide)) dX2_cutAt_142 (fun H locs hP hD hS => ?_)
                      rw [show (nI (Sk.length + 2)).toNatClampNeg = Sk.length + 2 from nI_clamp (by omega)] at hP hD
                      have hP : va_P (dC, dI) vwCl [(y0, .inr (2, [.int tv, .int (nI rn), .ref q1, .ref q2, .int (nI L.length), .ref q3, .ref q4, .int ct, .int il, .ref q5])), (q1, .inl (cA, (2, .inl sf))), (q2, .inl (cA, (60, .inl lf))), (q3, .inl (cA, (320, .inl rf))), (q4, .inl (cA, (320, .inl (upd (upd (upd nk Sk.length ((-(sgI (atL L b9))) * ((abI (atL L b9)) + 1))) (Sk.length + 1) (sgI (atL L k) * abI (atL L b9))) (Sk.length + 2) ((sgI (atL L b9)) * ((abI (atL L b9)) + 1)))))), (q5, .inl (cA, (6, .inl gf)))] H := hP
                      have hD : va_D A [(y0, .inr (2, [.int tv, .int (nI rn), .ref q1, .ref q2, .int (nI L.length), .ref q3, .ref q4, .int ct, .int il, .ref q5])), (q1, .inl (cA, (2, .inl sf))), (q2, .inl (cA, (60, .inl lf))), (q3, .inl (cA, (320, .inl rf))), (q4, .inl (cA, (320, .inl (upd (upd (upd nk Sk.length ((-(sgI (atL L b9))) * ((abI (atL L b9)) + 1))) (Sk.length + 1) (sgI (atL L k) * abI (atL L b9))) (Sk.length + 2) ((sgI (atL L b9)) * ((abI (atL L b9)) + 1)))))), (q5, .inl (cA, (6, .inl gf)))] := hD
                      refine lv_iinc (v := nI (Sk.length + 3)) (lv' := [(5, .int (nI (Sk.length + 3))), (7, .int (atL L k)), (6, .int (nI k)), (4, .int (sgI (atL L b9))), (3, .int (abI (atL L b9))), (2, .int (nI b9)), (0, .ref y0), (1, .int (nI e9))]) hx hb dX2_cutAt_143 hl (k := 2) rfl (nI_add Sk.length 3) (by decide) rfl (fun ls hl => ?_)
                      refine lv_goto (tgt := 161) hx hb dX2_cutAt_146 (by decide) ?_
                      refine lv_iinc (v := nI (k + 1)) (lv' := [(6, .int (nI (k + 1))), (5, .int (nI (Sk.length + 3))), (7, .int (atL L k)), (4, .int (sgI (atL L b9))), (3, .int (abI (atL L b9))), (2, .int (nI b9)), (0, .ref y0), (1, .int (nI e9))]) hx hb dX2_cutAt_161 hl (k := 2) rfl (g_inc _) (by decide) rfl (fun ls hl => ?_)
                      refine lv_goto (tgt := 38) hx hb dX2_cutAt_164 (by decide) ?_
                      rw [show Sk.length + 3 = (Sk ++ [-sgI (atL L b9) * (abI (atL L b9) + 1)] ++ [sgI (atL L k) * abI (atL L b9)] ++ [sgI (atL L b9) * (abI (atL L b9) + 1)]).length from by simp only [List.length_append, List.length_cons, List.length_nil]] at hl
                      exact ih38 (k + 1) (Sk ++ [-sgI (atL L b9) * (abI (atL L b9) + 1)] ++ [sgI (atL L k) * abI (atL L b9)] ++ [sgI (atL L b9) * (abI (atL L b9) + 1)]) (upd (upd (upd nk Sk.length ((-(sgI (atL L b9))) * ((abI (atL L b9)) + 1))) (Sk.length + 1) (sgI (atL L k) * abI (atL L b9))) (Sk.length + 2) ((sgI (atL L b9)) * ((abI (atL L b9)) + 1))) (by omega) (by rw [hSk]; first | exact (ckL_three (by omega) (by omega) c91).symm | exact (ckL_skip (by omega)).symm | exact (ckL_one (by omega) (by omega) (fun q => absurd q.1 (by omega))).symm | exact (ckL_one (by omega) (by omega) (fun q => absurd q.2.1 (by omega))).symm | exact (ckL_one (by omega) (by omega) (fun q => c91 q.2.2)).symm) (MR_push3 hRk (by omega)) (by omega) _ _ hP hD hS _ (lv_sub hl [0, 1, 3, 4, 5, 6, 7] rfl)
            · have c56 : k = e9 := g_neF k e9 (by omega) (by omega) c56
              refine lv_goto (tgt := 161) hx hb dX2_cutAt_59 (by decide) ?_
              refine lv_iinc (v := nI (k + 1)) (lv' := [(6, .int (nI (k + 1))), (5, .int (nI Sk.length)), (4, .int (sgI (atL L b9))), (3, .int (abI (atL L b9))), (2, .int (nI b9)), (0, .ref y0), (1, .int (nI e9))]) hx hb dX2_cutAt_161 hl (k := 0) rfl (g_inc _) (by decide) rfl (fun ls hl => ?_)
              refine lv_goto (tgt := 38) hx hb dX2_cutAt_164 (by decide) ?_
              exact ih38 (k + 1) Sk nk (by omega) (by rw [hSk]; first | exact (ckL_three (by omega) (by omega) c91).symm | exact (ckL_skip (by omega)).symm | exact (ckL_one (by omega) (by omega) (fun q => absurd q.1 (by omega))).symm | exact (ckL_one (by omega) (by omega) (fun q => absurd q.2.1 (by omega))).symm | exact (ckL_one (by omega) (by omega) (fun q => c91 q.2.2)).symm) hRk (by omega) _ _ hP hD hS _ (lv_sub hl [0, 1, 2, 3, 4, 5, 6] rfl)
    exact lp38 ((L.length - 0) + 1) 0 ([] : List Int32) nf (Nat.zero_le _) rfl MR_nil (Nat.lt_succ_self _) _ _ hP hD hS _ (lv_sub hl [0, 1, 2, 3, 4, 5, 6] rfl)
  refine lv_aload_n hx hb dX2_cutAt_16 rfl (lv_at hl 2 rfl) ?_
  refine va_get (D := (dC, dI)) (ci := 2) (v := .ref q3) (C := RX2) (T := TX2) (N := 10) hx hb hts (in_X2_cutAt_2) hown hK hP 0 rfl rfl 5 (by decide) (hts (.fieldLink RX2 20 "BraidWordsModel" "row" "[I") (List.mem_of_getElem? (i := 1) rfl)) (fun _ h9 => h9) rfl dX2_cutAt_17 ?_
  refine lv_iload_n hx hb dX2_cutAt_20 rfl (lv_at hl 1 rfl) ?_
  refine va_iald hx hb hK hP 3 0 rfl rfl (vp_in_nI (by omega) (by decide)) dX2_cutAt_21 ?_
  rw [show (nI b9).toNatClampNeg = b9 from nI_clamp (by omega)]
  rw [hR.2 b9 (by omega)]
  refine lv_if_le (tgt := 29) hx hb dX2_cutAt_22 (by decide) (fun c22 => ?_) (fun c22 => ?_)
  · refine lv_iconst (v := (-1)) hx hb dX2_cutAt_29 (by decide) ?_
    refine lv_topi (fun tp_3 etp_3 => ?_)
    obtain rfl : tp_3 = sgI (atL L b9) := etp_3.trans ((ok_sgn rn hrn _ (okL_at hok hb2) c22).symm)
    exact jn30
  · refine lv_iconst (v := 1) hx hb dX2_cutAt_25 (by decide) ?_
    refine lv_goto (tgt := 30) hx hb dX2_cutAt_26 (by decide) ?_
    refine lv_topi (fun tp_4 etp_4 => ?_)
    obtain rfl : tp_4 = sgI (atL L b9) := etp_4.trans ((ok_sgp rn hrn _ (okL_at hok hb2) c22).symm)
    exact jn30

abbrev mt_X2_makePlain_rm : Room := { frames := 3, cells := 0, slots := 0, locals := 87 }
set_option maxHeartbeats 4000000 in
set_option maxRecDepth 100000 in
theorem mt_X2_makePlain (l : Launch) (dC : Nat → ClassId) (dI : Nat → Nat → Nat) (cA : ClassId) (sz : Nat) (y0 : Nat) (q1 : Nat) (q2 : Nat) (q3 : Nat) (q4 : Nat) (q5 : Nat) (rn : Nat) (tv : Int32) (sf : Nat → Int32) (lf : Nat → Int32) (rf : Nat → Int32) (nf : Nat → Int32) (ct : Int32) (il : Int32) (gf : Nat → Int32) (L : List Int32) (hR : MR L rf) (hrn : rn ∈ rnS) (hok : okL rn L) (hk : L.length ≤ 100) : Met l yX2_makePlain wsX2_makePlain mt_X2_makePlain_rm (va_Pc [.ref y0] (gB (dC, dI) [(cA, .int)] [(y0, .inr (2, [.int tv, .int (nI rn), .ref q1, .ref q2, .int (nI L.length), .ref q3, .ref q4, .int ct, .int il, .ref q5])), (q1, .inl (cA, (2, .inl sf))), (q2, .inl (cA, (60, .inl lf))), (q3, .inl (cA, (320, .inl rf))), (q4, .inl (cA, (320, .inl nf))), (q5, .inl (cA, (6, .inl gf)))] sz)) (gM (dC, dI) none (fun u : (List Int32) × (Nat → Int32) × (Nat → Int32) × Int32 × Int32 => MR u.1 u.2.1 ∧ mpO (plain L) u.2.2.2.2 u.2.2.2.1 u.1 ∧ okL rn u.1) (fun u : (List Int32) × (Nat → Int32) × (Nat → Int32) × Int32 × Int32 => [(y0, .inr (2, [.int tv, .int (nI rn), .ref q1, .ref q2, .int (nI u.1.length), .ref q3, .ref q4, .int u.2.2.2.1, .int u.2.2.2.2, .ref q5])), (q1, .inl (cA, (2, .inl sf))), (q2, .inl (cA, (60, .inl lf))), (q3, .inl (cA, (320, .inl u.2.1))), (q4, .inl (cA, (320, .inl u.2.2.1))), (q5, .inl (cA, (6, .inl gf)))]) (va_A [(y0, .inr (2, [.int tv, .int (nI rn), .ref q1, .ref q2, .int (nI L.length), .ref q3, .ref q4, .int ct, .int il, .ref q5])), (q1, .inl (cA, (2, .inl sf))), (q2, .inl (cA, (60, .inl lf))), (q3, .inl (cA, (320, .inl rf))), (q4, .inl (cA, (320, .inl nf))), (q5, .inl (cA, (6, .inl gf)))] sz)) 0 0 (va_A [(y0, .inr (2, [.int tv, .int (nI rn), .ref q1, .ref q2, .int (nI L.length), .ref q3, .ref q4, .int ct, .int il, .ref q5])), (q1, .inl (cA, (2, .inl sf))), (q2, .inl (cA, (60, .inl lf))), (q3, .inl (cA, (320, .inl rf))), (q4, .inl (cA, (320, .inl nf))), (q5, .inl (cA, (6, .inl gf)))] sz) := by
  refine g_ofM (cc := cX2_makePlain) (maxL := 2) (ret := none) (by decide) rfl (Nat.le_of_ble_eq_true rfl) (fun p e s m below meth c ls hx hb hr hml hts hown hlocks hP hK hl hin A hA hD hS => ?_)
  have hl : lv_has ls 2 [(0, .ref y0)] := hl
  have hLm := hR.1
  refine lv_aload_n hx hb dX2_makePlain_0 rfl (lv_at hl 0 rfl) ?_
  refine lv_iconst (v := 0) hx hb dX2_makePlain_1 (by decide) ?_
  refine va_put (D := (dC, dI)) (ci := 2) (v := .int 0) (ty := .int) (C := RX2) (T := TX2) (N := 10) hx hb hts (in_X2_makePlain_2) tyX2 tyX2_ok nmX2 hown hK hP hD hS 0 rfl rfl 7 (by decide) (hts (.fieldLink RX2 62 "BraidWordsModel" "cuts" "I") (List.mem_of_getElem? (i := 1) rfl)) (fun _ h9 => h9) rfl (by decide +kernel) rfl rfl (Nat.le_of_ble_eq_true rfl) dX2_makePlain_2 (fun H locs hP hD hS => ?_)
  have hP : va_P (dC, dI) vwCl [(y0, .inr (2, [.int tv, .int (nI rn), .ref q1, .ref q2, .int (nI L.length), .ref q3, .ref q4, .int 0, .int il, .ref q5])), (q1, .inl (cA, (2, .inl sf))), (q2, .inl (cA, (60, .inl lf))), (q3, .inl (cA, (320, .inl rf))), (q4, .inl (cA, (320, .inl nf))), (q5, .inl (cA, (6, .inl gf)))] H := hP
  have hD : va_D A [(y0, .inr (2, [.int tv, .int (nI rn), .ref q1, .ref q2, .int (nI L.length), .ref q3, .ref q4, .int 0, .int il, .ref q5])), (q1, .inl (cA, (2, .inl sf))), (q2, .inl (cA, (60, .inl lf))), (q3, .inl (cA, (320, .inl rf))), (q4, .inl (cA, (320, .inl nf))), (q5, .inl (cA, (6, .inl gf)))] := hD
  refine lv_aload_n hx hb dX2_makePlain_5 rfl (lv_at hl 0 rfl) ?_
  refine lv_iconst (v := 0) hx hb dX2_makePlain_6 (by decide) ?_
  refine va_put (D := (dC, dI)) (ci := 2) (v := .int 0) (ty := .boolean) (C := RX2) (T := TX2) (N := 10) hx hb hts (in_X2_makePlain_2) tyX2 tyX2_ok nmX2 hown hK hP hD hS 0 rfl rfl 8 (by decide) (hts (.fieldLink RX2 65 "BraidWordsModel" "isLost" "Z") (List.mem_of_getElem? (i := 2) rfl)) (fun _ h9 => h9) rfl (by decide +kernel) (by decide +kernel) (by decide +kernel) (Nat.le_of_ble_eq_true rfl) dX2_makePlain_7 (fun H locs hP hD hS => ?_)
  have hP : va_P (dC, dI) vwCl [(y0, .inr (2, [.int tv, .int (nI rn), .ref q1, .ref q2, .int (nI L.length), .ref q3, .ref q4, .int 0, .int 0, .ref q5])), (q1, .inl (cA, (2, .inl sf))), (q2, .inl (cA, (60, .inl lf))), (q3, .inl (cA, (320, .inl rf))), (q4, .inl (cA, (320, .inl nf))), (q5, .inl (cA, (6, .inl gf)))] H := hP
  have hD : va_D A [(y0, .inr (2, [.int tv, .int (nI rn), .ref q1, .ref q2, .int (nI L.length), .ref q3, .ref q4, .int 0, .int 0, .ref q5])), (q1, .inl (cA, (2, .inl sf))), (q2, .inl (cA, (60, .inl lf))), (q3, .inl (cA, (320, .inl rf))), (q4, .inl (cA, (320, .inl nf))), (q5, .inl (cA, (6, .inl gf)))] := hD
  refine lv_aload_n hx hb dX2_makePlain_10 rfl (lv_at hl 0 rfl) ?_
  refine g_RVi (As := []) (rest := []) ⟨hx, hb, hml, hown, hts⟩ (mt_X2_ends l dC dI cA H.size y0 q1 q2 q3 q4 q5 rn tv sf lf rf nf 0 0 gf L hR hrn hok) (cwV 0 hts gX2_makePlain_X2_ends rfl rfl rfl hdX2_ends ⟨Nat.le_of_ble_eq_true rfl, Nat.le_of_ble_eq_true rfl⟩) hP hK hD [0, 1, 2, 3, 4, 5] (by decide) rfl (va_recv hK hP (ci := 2) (q0 := 0) rfl rfl) rfl hl.1 rfl (Nat.le_of_ble_eq_true rfl) dX2_makePlain_11 (Nat.zero_le _) (Nat.zero_le _) ?_
  refine lv_istore_n (lv' := [(1, .int (oiI (enF L 0))), (0, .ref y0)]) hx hb dX2_makePlain_14 rfl hl (by decide) rfl (fun ls hl => ?_)
  have lp15 : ∀ (d : Nat) (k : Nat) (Lt : List Int32) (r1 : Nat → Int32) (n1 : Nat → Int32) (hk9 : k ≤ 100) (hlt9 : Lt.length ≤ 100) (hm : mpL (100 - k) k Lt = plain L) (hRt : MR Lt r1) (hot : okL rn Lt), 101 - k < d → ∀ (H : Heap) (locs : List Loc), va_P (dC, dI) vwCl [(y0, .inr (2, [.int tv, .int (nI rn), .ref q1, .ref q2, .int (nI Lt.length), .ref q3, .ref q4, .int (nI k), .int 0, .ref q5])), (q1, .inl (cA, (2, .inl sf))), (q2, .inl (cA, (60, .inl lf))), (q3, .inl (cA, (320, .inl r1))), (q4, .inl (cA, (320, .inl n1))), (q5, .inl (cA, (6, .inl gf)))] H → va_D A [(y0, .inr (2, [.int tv, .int (nI rn), .ref q1, .ref q2, .int (nI Lt.length), .ref q3, .ref q4, .int (nI k), .int 0, .ref q5])), (q1, .inl (cA, (2, .inl sf))), (q2, .inl (cA, (60, .inl lf))), (q3, .inl (cA, (320, .inl r1))), (q4, .inl (cA, (320, .inl n1))), (q5, .inl (cA, (6, .inl gf)))] → va_S A s.heap H locs → ∀ ls : Array Slot, lv_has ls 2 [(1, .int (oiI (enF Lt 0))), (0, .ref y0)] → W p l e mt_X2_makePlain_rm s m ([.ref y0] : List Value).toArray below meth c H locs 0 0 (MQ below (gM (dC, dI) none (fun u : (List Int32) × (Nat → Int32) × (Nat → Int32) × Int32 × Int32 => MR u.1 u.2.1 ∧ mpO (plain L) u.2.2.2.2 u.2.2.2.1 u.1 ∧ okL rn u.1) (fun u : (List Int32) × (Nat → Int32) × (Nat → Int32) × Int32 × Int32 => [(y0, .inr (2, [.int tv, .int (nI rn), .ref q1, .ref q2, .int (nI u.1.length), .ref q3, .ref q4, .int u.2.2.2.1, .int u.2.2.2.2, .ref q5])), (q1, .inl (cA, (2, .inl sf))), (q2, .inl (cA, (60, .inl lf))), (q3, .inl (cA, (320, .inl u.2.1))), (q4, .inl (cA, (320, .inl u.2.2.1))), (q5, .inl (cA, (6, .inl gf)))]) A) ([.ref y0] : List Value).toArray s 0 0 A) (F0 m 15 ls []) := by
    intro d
    induction d with
    | zero => intro k Lt r1 n1 hk9 hlt9 hm hRt hot hd; exact absurd hd (Nat.not_lt_zero _)
    | succ d ih15 =>
      intro k Lt r1 n1 hk9 hlt9 hm hRt hot hd H locs hP hD hS ls hl
      refine lv_iload_n hx hb dX2_makePlain_15 rfl (lv_at hl 0 rfl) ?_
      refine lv_iconst (v := (-1)) hx hb dX2_makePlain_16 (by decide) ?_
      refine lv_icmp_eq (tgt := 83) hx hb dX2_makePlain_17 (by decide) (fun c17 => ?_) (fun c17 => ?_)
      · have c17 : enF Lt 0 = none := oiI_no (enF_small (by omega)) c17
        exact g_endMv hx hb hr hlocks hP hS dX2_makePlain_83 (Lt, r1, n1, nI k, 0) rfl (⟨hRt, by rw [← hm, mpL_end c17]; exact ⟨rfl, rfl, rfl⟩, hot⟩)
      · obtain ⟨e9, c17⟩ := oiI_yes c17
        obtain ⟨-, he2, ⟨b9, hb9⟩, hne⟩ := enF_spec c17
        have hbl := bg_lt hb9
        have hcl := cutL_len hbl he2
        have hcn : cnL Lt b9 (e9 - (b9 + 1)) ≤ e9 - (b9 + 1) := cnL_le
        rw [show oiI (enF Lt 0) = nI e9 from by rw [c17]; rfl] at hl
        refine lv_aload_n hx hb dX2_makePlain_20 rfl (lv_at hl 1 rfl) ?_
        refine va_get (D := (dC, dI)) (ci := 2) (v := .int 0) (C := RX2) (T := TX2) (N := 10) hx hb hts (in_X2_makePlain_2) hown hK hP 0 rfl rfl 8 (by decide) (hts (.fieldLink RX2 65 "BraidWordsModel" "isLost" "Z") (List.mem_of_getElem? (i := 2) rfl)) (fun _ h9 => h9) rfl dX2_makePlain_21 ?_
        refine lv_if_ne (tgt := 83) hx hb dX2_makePlain_24 (by decide) (fun c24 => ?_) (fun c24 => ?_)
        · exact absurd (by decide) c24
        · have c24 : 0 = 0 := g_neF 0 0 (by omega) (by omega) c24
          refine lv_aload_n hx hb dX2_makePlain_27 rfl (lv_at hl 1 rfl) ?_
          refine va_get (D := (dC, dI)) (ci := 2) (v := .int (nI k)) (C := RX2) (T := TX2) (N := 10) hx hb hts (in_X2_makePlain_2) hown hK hP 0 rfl rfl 7 (by decide) (hts (.fieldLink RX2 62 "BraidWordsModel" "cuts" "I") (List.mem_of_getElem? (i := 1) rfl)) (fun _ h9 => h9) rfl dX2_makePlain_28 ?_
          refine lv_bipush (v := 100) hx hb dX2_makePlain_31 (by decide) ?_
          refine lv_icmp_ne (tgt := 42) hx hb dX2_makePlain_33 (by decide) (fun c33 => ?_) (fun c33 => ?_)
          · have c33 : ¬ k = 100 := g_neT k 100 (by omega) (by omega) c33
            refine lv_aload_n hx hb dX2_makePlain_42 rfl (lv_at hl 1 rfl) ?_
            refine lv_iload_n hx hb dX2_makePlain_43 rfl (lv_at hl 0 rfl) ?_
            refine g_MVv (As := [.int (nI e9)]) (rest := []) ⟨hx, hb, hml, hown, hts⟩ (mt_X2_cutAt l dC dI cA H.size y0 q1 q2 q3 q4 q5 rn tv sf lf r1 n1 (nI k) 0 gf Lt b9 e9 hRt hrn hot (by first | omega | (simp only [List.length_append, List.length_cons, List.length_nil, List.length_set, turnL_len]; omega)) hb9 (by first | omega | (simp only [List.length_append, List.length_cons, List.length_nil, List.length_set, turnL_len]; omega))) (cwV 1 hts gX2_makePlain_X2_cutAt rfl rfl rfl hdX2_cutAt ⟨Nat.le_of_ble_eq_true rfl, Nat.le_of_ble_eq_true rfl⟩) hP hK hD hS hA [0, 1, 2, 3, 4, 5] (by decide) rfl (va_recv hK hP (ci := 2) (q0 := 0) rfl rfl) rfl hl.1 rfl (Nat.le_of_ble_eq_true rfl) dX2_makePlain_44 (Nat.zero_le _) (Nat.zero_le _) (fun u9 => [(y0, .inr (2, [.int tv, .int (nI rn), .ref q1, .ref q2, .int (nI ((cutL Lt b9 e9).length)), .ref q3, .ref q4, .int (nI k), .int 0, .ref q5])), (q1, .inl (cA, (2, .inl sf))), (q2, .inl (cA, (60, .inl lf))), (q3, .inl (cA, (320, .inl u9.1))), (q4, .inl (cA, (320, .inl u9.2))), (q5, .inl (cA, (6, .inl gf)))]) (fun _ => rfl) (fun _ => rfl) (fun u H locs hw_3 hP hD hS => ?_)
            obtain ⟨r1_1, n1_2⟩ := u
            have hw_3 : MR (cutL Lt b9 e9) r1_1 := hw_3
            have hP : va_P (dC, dI) vwCl [(y0, .inr (2, [.int tv, .int (nI rn), .ref q1, .ref q2, .int (nI ((cutL Lt b9 e9).length)), .ref q3, .ref q4, .int (nI k), .int 0, .ref q5])), (q1, .inl (cA, (2, .inl sf))), (q2, .inl (cA, (60, .inl lf))), (q3, .inl (cA, (320, .inl r1_1))), (q4, .inl (cA, (320, .inl n1_2))), (q5, .inl (cA, (6, .inl gf)))] H := hP
            have hD : va_D A [(y0, .inr (2, [.int tv, .int (nI rn), .ref q1, .ref q2, .int (nI ((cutL Lt b9 e9).length)), .ref q3, .ref q4, .int (nI k), .int 0, .ref q5])), (q1, .inl (cA, (2, .inl sf))), (q2, .inl (cA, (60, .inl lf))), (q3, .inl (cA, (320, .inl r1_1))), (q4, .inl (cA, (320, .inl n1_2))), (q5, .inl (cA, (6, .inl gf)))] := hD
            refine lv_aload_n hx hb dX2_makePlain_47 rfl (lv_at hl 1 rfl) ?_
            refine lv_dup hx hb dX2_makePlain_48 rfl ?_
            refine va_get (D := (dC, dI)) (ci := 2) (v := .int (nI k)) (C := RX2) (T := TX2) (N := 10) hx hb hts (in_X2_makePlain_2) hown hK hP 0 rfl rfl 7 (by decide) (hts (.fieldLink RX2 62 "BraidWordsModel" "cuts" "I") (List.mem_of_getElem? (i := 1) rfl)) (fun _ h9 => h9) rfl dX2_makePlain_49 ?_
            refine lv_iconst (v := 1) hx hb dX2_makePlain_52 (by decide) ?_
            refine lv_iadd hx hb dX2_makePlain_53 ?_
            rw [show (nI k) + 1 = nI (k + 1) from nI_add k 1]
            refine va_put (D := (dC, dI)) (ci := 2) (v := .int (nI (k + 1))) (ty := .int) (C := RX2) (T := TX2) (N := 10) hx hb hts (in_X2_makePlain_2) tyX2 tyX2_ok nmX2 hown hK hP hD hS 0 rfl rfl 7 (by decide) (hts (.fieldLink RX2 62 "BraidWordsModel" "cuts" "I") (List.mem_of_getElem? (i := 1) rfl)) (fun _ h9 => h9) rfl (by decide +kernel) rfl rfl (Nat.le_of_ble_eq_true rfl) dX2_makePlain_54 (fun H locs hP hD hS => ?_)
            have hP : va_P (dC, dI) vwCl [(y0, .inr (2, [.int tv, .int (nI rn), .ref q1, .ref q2, .int (nI ((cutL Lt b9 e9).length)), .ref q3, .ref q4, .int (nI (k + 1)), .int 0, .ref q5])), (q1, .inl (cA, (2, .inl sf))), (q2, .inl (cA, (60, .inl lf))), (q3, .inl (cA, (320, .inl r1_1))), (q4, .inl (cA, (320, .inl n1_2))), (q5, .inl (cA, (6, .inl gf)))] H := hP
            have hD : va_D A [(y0, .inr (2, [.int tv, .int (nI rn), .ref q1, .ref q2, .int (nI ((cutL Lt b9 e9).length)), .ref q3, .ref q4, .int (nI (k + 1)), .int 0, .ref q5])), (q1, .inl (cA, (2, .inl sf))), (q2, .inl (cA, (60, .inl lf))), (q3, .inl (cA, (320, .inl r1_1))), (q4, .inl (cA, (320, .inl n1_2))), (q5, .inl (cA, (6, .inl gf)))] := hD
            refine lv_aload_n hx hb dX2_makePlain_57 rfl (lv_at hl 1 rfl) ?_
            refine lv_aload_n hx hb dX2_makePlain_58 rfl (lv_at hl 1 rfl) ?_
            refine va_get (D := (dC, dI)) (ci := 2) (v := .int (nI ((cutL Lt b9 e9).length))) (C := RX2) (T := TX2) (N := 10) hx hb hts (in_X2_makePlain_2) hown hK hP 0 rfl rfl 4 (by decide) (hts (.fieldLink RX2 36 "BraidWordsModel" "many" "I") (List.mem_of_getElem? (i := 3) rfl)) (fun _ h9 => h9) rfl dX2_makePlain_59 ?_
            refine lv_bipush (v := 100) hx hb dX2_makePlain_62 (by decide) ?_
            refine lv_icmp_le (tgt := 71) hx hb dX2_makePlain_64 (by decide) (fun c64 => ?_) (fun c64 => ?_)
            · have c64 : ((cutL Lt b9 e9).length) ≤ 100 := g_leT ((cutL Lt b9 e9).length) 100 (by omega) (by omega) c64
              refine lv_iconst (v := 0) hx hb dX2_makePlain_71 (by decide) ?_
              refine va_put (D := (dC, dI)) (ci := 2) (v := .int 0) (ty := .boolean) (C := RX2) (T := TX2) (N := 10) hx hb hts (in_X2_makePlain_2) tyX2 tyX2_ok nmX2 hown hK hP hD hS 0 rfl rfl 8 (by decide) (hts (.fieldLink RX2 65 "BraidWordsModel" "isLost" "Z") (List.mem_of_getElem? (i := 2) rfl)) (fun _ h9 => h9) rfl (by decide +kernel) (by decide +kernel) (by decide +kernel) (Nat.le_of_ble_eq_true rfl) dX2_makePlain_72 (fun H locs hP hD hS => ?_)
              have hP : va_P (dC, dI) vwCl [(y0, .inr (2, [.int tv, .int (nI rn), .ref q1, .ref q2, .int (nI ((cutL Lt b9 e9).length)), .ref q3, .ref q4, .int (nI (k + 1)), .int 0, .ref q5])), (q1, .inl (cA, (2, .inl sf))), (q2, .inl (cA, (60, .inl lf))), (q3, .inl (cA, (320, .inl r1_1))), (q4, .inl (cA, (320, .inl n1_2))), (q5, .inl (cA, (6, .inl gf)))] H := hP
              have hD : va_D A [(y0, .inr (2, [.int tv, .int (nI rn), .ref q1, .ref q2, .int (nI ((cutL Lt b9 e9).length)), .ref q3, .ref q4, .int (nI (k + 1)), .int 0, .ref q5])), (q1, .inl (cA, (2, .inl sf))), (q2, .inl (cA, (60, .inl lf))), (q3, .inl (cA, (320, .inl r1_1))), (q4, .inl (cA, (320, .inl n1_2))), (q5, .inl (cA, (6, .inl gf)))] := hD
              refine lv_aload_n hx hb dX2_makePlain_75 rfl (lv_at hl 1 rfl) ?_
              refine g_RVi (As := []) (rest := []) ⟨hx, hb, hml, hown, hts⟩ (mt_X2_ends l dC dI cA H.size y0 q1 q2 q3 q4 q5 rn tv sf lf r1_1 n1_2 (nI (k + 1)) 0 gf (cutL Lt b9 e9) hw_3 hrn (okL_cut hrn hot (show b9 < Lt.length by omega))) (cwV 0 hts gX2_makePlain_X2_ends rfl rfl rfl hdX2_ends ⟨Nat.le_of_ble_eq_true rfl, Nat.le_of_ble_eq_true rfl⟩) hP hK hD [0, 1, 2, 3, 4, 5] (by decide) rfl (va_recv hK hP (ci := 2) (q0 := 0) rfl rfl) rfl hl.1 rfl (Nat.le_of_ble_eq_true rfl) dX2_makePlain_76 (Nat.zero_le _) (Nat.zero_le _) ?_
              refine lv_istore_n (lv' := [(1, .int (oiI (enF (cutL Lt b9 e9) 0))), (0, .ref y0)]) hx hb dX2_makePlain_79 rfl hl (by decide) rfl (fun ls hl => ?_)
              refine lv_goto (tgt := 15) hx hb dX2_makePlain_80 (by decide) ?_
              exact ih15 (k + 1) (cutL Lt b9 e9) r1_1 n1_2 (by omega) (by omega) (by rw [← hm, show 100 - k = (100 - (k + 1)) + 1 by omega, mpL_cut c17 hb9 (by omega)]) hw_3 (okL_cut hrn hot (show b9 < Lt.length by omega)) (by omega) _ _ hP hD hS _ (lv_sub hl [0, 1] rfl)
            · have c64 : 100 < ((cutL Lt b9 e9).length) := g_leF ((cutL Lt b9 e9).length) 100 (by omega) (by omega) c64
              refine lv_iconst (v := 1) hx hb dX2_makePlain_67 (by decide) ?_
              refine lv_goto (tgt := 72) hx hb dX2_makePlain_68 (by decide) ?_
              refine va_put (D := (dC, dI)) (ci := 2) (v := .int 1) (ty := .boolean) (C := RX2) (T := TX2) (N := 10) hx hb hts (in_X2_makePlain_2) tyX2 tyX2_ok nmX2 hown hK hP hD hS 0 rfl rfl 8 (by decide) (hts (.fieldLink RX2 65 "BraidWordsModel" "isLost" "Z") (List.mem_of_getElem? (i := 2) rfl)) (fun _ h9 => h9) rfl (by decide +kernel) (by decide +kernel) (by decide +kernel) (Nat.le_of_ble_eq_true rfl) dX2_makePlain_72 (fun H locs hP hD hS => ?_)
              have hP : va_P (dC, dI) vwCl [(y0, .inr (2, [.int tv, .int (nI rn), .ref q1, .ref q2, .int (nI ((cutL Lt b9 e9).length)), .ref q3, .ref q4, .int (nI (k + 1)), .int 1, .ref q5])), (q1, .inl (cA, (2, .inl sf))), (q2, .inl (cA, (60, .inl lf))), (q3, .inl (cA, (320, .inl r1_1))), (q4, .inl (cA, (320, .inl n1_2))), (q5, .inl (cA, (6, .inl gf)))] H := hP
              have hD : va_D A [(y0, .inr (2, [.int tv, .int (nI rn), .ref q1, .ref q2, .int (nI ((cutL Lt b9 e9).length)), .ref q3, .ref q4, .int (nI (k + 1)), .int 1, .ref q5])), (q1, .inl (cA, (2, .inl sf))), (q2, .inl (cA, (60, .inl lf))), (q3, .inl (cA, (320, .inl r1_1))), (q4, .inl (cA, (320, .inl n1_2))), (q5, .inl (cA, (6, .inl gf)))] := hD
              refine lv_aload_n hx hb dX2_makePlain_75 rfl (lv_at hl 1 rfl) ?_
              refine g_RVi (As := []) (rest := []) ⟨hx, hb, hml, hown, hts⟩ (mt_X2_ends l dC dI cA H.size y0 q1 q2 q3 q4 q5 rn tv sf lf r1_1 n1_2 (nI (k + 1)) 1 gf (cutL Lt b9 e9) hw_3 hrn (okL_cut hrn hot (show b9 < Lt.length by omega))) (cwV 0 hts gX2_makePlain_X2_ends rfl rfl rfl hdX2_ends ⟨Nat.le_of_ble_eq_true rfl, Nat.le_of_ble_eq_true rfl⟩) hP hK hD [0, 1, 2, 3, 4, 5] (by decide) rfl (va_recv hK hP (ci := 2) (q0 := 0) rfl rfl) rfl hl.1 rfl (Nat.le_of_ble_eq_true rfl) dX2_makePlain_76 (Nat.zero_le _) (Nat.zero_le _) ?_
              refine lv_istore_n (lv' := [(1, .int (oiI (enF (cutL Lt b9 e9) 0))), (0, .ref y0)]) hx hb dX2_makePlain_79 rfl hl (by decide) rfl (fun ls hl => ?_)
              refine lv_goto (tgt := 15) hx hb dX2_makePlain_80 (by decide) ?_
              refine lv_iload_n hx hb dX2_makePlain_15 rfl (lv_at hl 0 rfl) ?_
              refine lv_iconst (v := (-1)) hx hb dX2_makePlain_16 (by decide) ?_
              refine lv_icmp_eq (tgt := 83) hx hb dX2_makePlain_17 (by decide) (fun c17_4 => ?_) (fun c17_4 => ?_)
              · exact g_endMv hx hb hr hlocks hP hS dX2_makePlain_83 (cutL Lt b9 e9, r1_1, n1_2, nI (k + 1), 1) rfl (⟨hw_3, by rw [← hm, mpL_long c17 hb9 (by omega)]; exact rfl, okL_cut hrn hot (show b9 < Lt.length by omega)⟩)
              · refine lv_aload_n hx hb dX2_makePlain_20 rfl (lv_at hl 1 rfl) ?_
                refine va_get (D := (dC, dI)) (ci := 2) (v := .int 1) (C := RX2) (T := TX2) (N := 10) hx hb hts (in_X2_makePlain_2) hown hK hP 0 rfl rfl 8 (by decide) (hts (.fieldLink RX2 65 "BraidWordsModel" "isLost" "Z") (List.mem_of_getElem? (i := 2) rfl)) (fun _ h9 => h9) rfl dX2_makePlain_21 ?_
                refine lv_if_ne (tgt := 83) hx hb dX2_makePlain_24 (by decide) (fun c24_5 => ?_) (fun c24_5 => ?_)
                · have c24_5 : ¬ 1 = 0 := g_neT 1 0 (by omega) (by omega) c24_5
                  exact g_endMv hx hb hr hlocks hP hS dX2_makePlain_83 (cutL Lt b9 e9, r1_1, n1_2, nI (k + 1), 1) rfl (⟨hw_3, by rw [← hm, mpL_long c17 hb9 (by omega)]; exact rfl, okL_cut hrn hot (show b9 < Lt.length by omega)⟩)
                · exact absurd c24_5 (by decide)
          · have c33 : k = 100 := g_neF k 100 (by omega) (by omega) c33
            refine lv_aload_n hx hb dX2_makePlain_36 rfl (lv_at hl 1 rfl) ?_
            refine lv_iconst (v := 1) hx hb dX2_makePlain_37 (by decide) ?_
            refine va_put (D := (dC, dI)) (ci := 2) (v := .int 1) (ty := .boolean) (C := RX2) (T := TX2) (N := 10) hx hb hts (in_X2_makePlain_2) tyX2 tyX2_ok nmX2 hown hK hP hD hS 0 rfl rfl 8 (by decide) (hts (.fieldLink RX2 65 "BraidWordsModel" "isLost" "Z") (List.mem_of_getElem? (i := 2) rfl)) (fun _ h9 => h9) rfl (by decide +kernel) (by decide +kernel) (by decide +kernel) (Nat.le_of_ble_eq_true rfl) dX2_makePlain_38 (fun H locs hP hD hS => ?_)
            have hP : va_P (dC, dI) vwCl [(y0, .inr (2, [.int tv, .int (nI rn), .ref q1, .ref q2, .int (nI Lt.length), .ref q3, .ref q4, .int (nI k), .int 1, .ref q5])), (q1, .inl (cA, (2, .inl sf))), (q2, .inl (cA, (60, .inl lf))), (q3, .inl (cA, (320, .inl r1))), (q4, .inl (cA, (320, .inl n1))), (q5, .inl (cA, (6, .inl gf)))] H := hP
            have hD : va_D A [(y0, .inr (2, [.int tv, .int (nI rn), .ref q1, .ref q2, .int (nI Lt.length), .ref q3, .ref q4, .int (nI k), .int 1, .ref q5])), (q1, .inl (cA, (2, .inl sf))), (q2, .inl (cA, (60, .inl lf))), (q3, .inl (cA, (320, .inl r1))), (q4, .inl (cA, (320, .inl n1))), (q5, .inl (cA, (6, .inl gf)))] := hD
            exact g_endMv hx hb hr hlocks hP hS dX2_makePlain_41 (Lt, r1, n1, nI k, 1) rfl (⟨hRt, by rw [← hm, show 100 - k = 0 by omega, mpL_out c17]; exact rfl, hot⟩)
  exact lp15 ((101 - 0) + 1) 0 L rf nf (by omega) hk rfl hR hok (Nat.lt_succ_self _) _ _ hP hD hS _ (lv_sub hl [0, 1] rfl)

abbrev mt_X2_least_rm : Room := { frames := 1, cells := 0, slots := 0, locals := 21 }
set_option maxHeartbeats 4000000 in
set_option maxRecDepth 100000 in
theorem mt_X2_least (l : Launch) (dC : Nat → ClassId) (dI : Nat → Nat → Nat) (cA : ClassId) (sz : Nat) (y0 : Nat) (q1 : Nat) (q2 : Nat) (q3 : Nat) (q4 : Nat) (q5 : Nat) (rn : Nat) (tv : Int32) (sf : Nat → Int32) (lf : Nat → Int32) (rf : Nat → Int32) (nf : Nat → Int32) (ct : Int32) (il : Int32) (gf : Nat → Int32) (L : List Int32) (hR : MR L rf) : Met l yX2_least wsX2_least mt_X2_least_rm (va_Pc [.ref y0] (gB (dC, dI) [(cA, .int)] [(y0, .inr (2, [.int tv, .int (nI rn), .ref q1, .ref q2, .int (nI L.length), .ref q3, .ref q4, .int ct, .int il, .ref q5])), (q1, .inl (cA, (2, .inl sf))), (q2, .inl (cA, (60, .inl lf))), (q3, .inl (cA, (320, .inl rf))), (q4, .inl (cA, (320, .inl nf))), (q5, .inl (cA, (6, .inl gf)))] sz)) (gR (some (.int (leS L L.length)))) 0 0 (fun _ => False) := by
  refine g_ofR (cc := cX2_least) (maxL := 3) (ret := (some .int)) (by decide) rfl (Nat.le_of_ble_eq_true rfl) (fun p e s m below meth c ls hx hb hr hml hts hown hlocks hP hK hl hD => ?_)
  have hS : va_S (fun _ => True) s.heap s.heap [] := va_S.rf
  have hl : lv_has ls 3 [(0, .ref y0)] := hl
  have hLm := hR.1
  refine lv_iconst (v := 0) hx hb dX2_least_0 (by decide) ?_
  refine lv_istore_n (lv' := [(1, .int 0), (0, .ref y0)]) hx hb dX2_least_1 rfl hl (by decide) rfl (fun ls hl => ?_)
  refine lv_iconst (v := 0) hx hb dX2_least_2 (by decide) ?_
  refine lv_istore_n (lv' := [(2, .int 0), (1, .int 0), (0, .ref y0)]) hx hb dX2_least_3 rfl hl (by decide) rfl (fun ls hl => ?_)
  have lp4 : ∀ (d : Nat) (k : Nat) (hk9 : k ≤ L.length), L.length - k < d → ∀ ls : Array Slot, lv_has ls 3 [(2, .int (nI k)), (1, .int (leS L k)), (0, .ref y0)] → W p l e mt_X2_least_rm s m ([.ref y0] : List Value).toArray below meth c s.heap [] 0 0 (MQ below (gR (some (.int (leS L L.length)))) ([.ref y0] : List Value).toArray s 0 0 (fun _ => False)) (F0 m 4 ls []) := by
    intro d
    induction d with
    | zero => intro k hk9 hd; exact absurd hd (Nat.not_lt_zero _)
    | succ d ih4 =>
      intro k hk9 hd ls hl
      refine lv_iload_n hx hb dX2_least_4 rfl (lv_at hl 0 rfl) ?_
      refine lv_aload_n hx hb dX2_least_5 rfl (lv_at hl 2 rfl) ?_
      refine va_get (D := (dC, dI)) (ci := 2) (v := .int (nI L.length)) (C := RX2) (T := TX2) (N := 10) hx hb hts (in_X2_least_2) hown hK hP 0 rfl rfl 4 (by decide) (hts (.fieldLink RX2 36 "BraidWordsModel" "many" "I") (List.mem_of_getElem? (i := 1) rfl)) (fun _ h9 => h9) rfl dX2_least_6 ?_
      refine lv_icmp_ge (tgt := 45) hx hb dX2_least_9 (by decide) (fun c9 => ?_) (fun c9 => ?_)
      · have c9 : L.length ≤ k := g_geT k L.length (by omega) (by omega) c9
        refine lv_iload_n hx hb dX2_least_45 rfl (lv_at hl 1 rfl) ?_
        exact g_endRi hx hb hr hlocks dX2_least_46 (by rw [show k = L.length by omega])
      · have c9 : k < L.length := g_geF k L.length (by omega) (by omega) c9
        refine lv_iload_n hx hb dX2_least_12 rfl (lv_at hl 1 rfl) ?_
        refine lv_if_eq (tgt := 29) hx hb dX2_least_13 (by decide) (fun c13 => ?_) (fun c13 => ?_)
        · refine lv_aload_n hx hb dX2_least_29 rfl (lv_at hl 2 rfl) ?_
          refine va_get (D := (dC, dI)) (ci := 2) (v := .ref q3) (C := RX2) (T := TX2) (N := 10) hx hb hts (in_X2_least_2) hown hK hP 0 rfl rfl 5 (by decide) (hts (.fieldLink RX2 20 "BraidWordsModel" "row" "[I") (List.mem_of_getElem? (i := 2) rfl)) (fun _ h9 => h9) rfl dX2_least_30 ?_
          refine lv_iload_n hx hb dX2_least_33 rfl (lv_at hl 0 rfl) ?_
          refine va_iald hx hb hK hP 3 0 rfl rfl (vp_in_nI (by omega) (by decide)) dX2_least_34 ?_
          rw [show (nI k).toNatClampNeg = k from nI_clamp (by omega)]
          rw [hR.2 k (by omega)]
          refine va_mabs hx hb (hml.trans hl.1.symm) hown (hts (.methodLink RX2 47 Lib.Math.abs.name) (List.mem_of_getElem? (i := 3) rfl)) (hts (.static Lib.Math.abs.name) (List.mem_of_getElem? (i := 4) rfl)) (hts (.initialized "java/lang/Math") (List.mem_of_getElem? (i := 5) rfl)) (hts (.code Lib.Math.abs.name Lib.Math.abs.code 1 (some .int)) (List.mem_of_getElem? (i := 6) rfl)) (Nat.le_of_ble_eq_true rfl) (Nat.le_of_ble_eq_true rfl) (Nat.zero_le _) (Nat.zero_le _) dX2_least_35 ?_
          rw [mabs_eq]
          refine lv_istore_n (lv' := [(1, .int (abI (atL L k))), (2, .int (nI k)), (0, .ref y0)]) hx hb dX2_least_38 rfl hl (by decide) rfl (fun ls hl => ?_)
          rw [show abI (atL L k) = leS L (k + 1) from by show _ = (if _ then _ else _); rw [if_pos (by first | exact Or.inl c13 | exact Or.inr (Int32.not_le.mp c26))]] at hl
          refine lv_iinc (v := nI (k + 1)) (lv' := [(2, .int (nI (k + 1))), (1, .int (leS L (k + 1))), (0, .ref y0)]) hx hb dX2_least_39 hl (k := 1) rfl (g_inc _) (by decide) rfl (fun ls hl => ?_)
          refine lv_goto (tgt := 4) hx hb dX2_least_42 (by decide) ?_
          exact ih4 (k + 1) (by omega) (by omega) _ (lv_sub hl [0, 1, 2] rfl)
        · refine lv_aload_n hx hb dX2_least_16 rfl (lv_at hl 2 rfl) ?_
          refine va_get (D := (dC, dI)) (ci := 2) (v := .ref q3) (C := RX2) (T := TX2) (N := 10) hx hb hts (in_X2_least_2) hown hK hP 0 rfl rfl 5 (by decide) (hts (.fieldLink RX2 20 "BraidWordsModel" "row" "[I") (List.mem_of_getElem? (i := 2) rfl)) (fun _ h9 => h9) rfl dX2_least_17 ?_
          refine lv_iload_n hx hb dX2_least_20 rfl (lv_at hl 0 rfl) ?_
          refine va_iald hx hb hK hP 3 0 rfl rfl (vp_in_nI (by omega) (by decide)) dX2_least_21 ?_
          rw [show (nI k).toNatClampNeg = k from nI_clamp (by omega)]
          rw [hR.2 k (by omega)]
          refine va_mabs hx hb (hml.trans hl.1.symm) hown (hts (.methodLink RX2 47 Lib.Math.abs.name) (List.mem_of_getElem? (i := 3) rfl)) (hts (.static Lib.Math.abs.name) (List.mem_of_getElem? (i := 4) rfl)) (hts (.initialized "java/lang/Math") (List.mem_of_getElem? (i := 5) rfl)) (hts (.code Lib.Math.abs.name Lib.Math.abs.code 1 (some .int)) (List.mem_of_getElem? (i := 6) rfl)) (Nat.le_of_ble_eq_true rfl) (Nat.le_of_ble_eq_true rfl) (Nat.zero_le _) (Nat.zero_le _) dX2_least_22 ?_
          rw [mabs_eq]
          refine lv_iload_n hx hb dX2_least_25 rfl (lv_at hl 1 rfl) ?_
          refine lv_icmp_ge (tgt := 39) hx hb dX2_least_26 (by decide) (fun c26 => ?_) (fun c26 => ?_)
          · rw [show leS L k = leS L (k + 1) from by show _ = (if _ then _ else _); rw [if_neg (fun q => q.elim c13 (Int32.not_lt.mpr c26))]] at hl
            refine lv_iinc (v := nI (k + 1)) (lv' := [(2, .int (nI (k + 1))), (1, .int (leS L (k + 1))), (0, .ref y0)]) hx hb dX2_least_39 hl (k := 0) rfl (g_inc _) (by decide) rfl (fun ls hl => ?_)
            refine lv_goto (tgt := 4) hx hb dX2_least_42 (by decide) ?_
            exact ih4 (k + 1) (by omega) (by omega) _ (lv_sub hl [0, 1, 2] rfl)
          · refine lv_aload_n hx hb dX2_least_29 rfl (lv_at hl 2 rfl) ?_
            refine va_get (D := (dC, dI)) (ci := 2) (v := .ref q3) (C := RX2) (T := TX2) (N := 10) hx hb hts (in_X2_least_2) hown hK hP 0 rfl rfl 5 (by decide) (hts (.fieldLink RX2 20 "BraidWordsModel" "row" "[I") (List.mem_of_getElem? (i := 2) rfl)) (fun _ h9 => h9) rfl dX2_least_30 ?_
            refine lv_iload_n hx hb dX2_least_33 rfl (lv_at hl 0 rfl) ?_
            refine va_iald hx hb hK hP 3 0 rfl rfl (vp_in_nI (by omega) (by decide)) dX2_least_34 ?_
            rw [show (nI k).toNatClampNeg = k from nI_clamp (by omega)]
            rw [hR.2 k (by omega)]
            refine va_mabs hx hb (hml.trans hl.1.symm) hown (hts (.methodLink RX2 47 Lib.Math.abs.name) (List.mem_of_getElem? (i := 3) rfl)) (hts (.static Lib.Math.abs.name) (List.mem_of_getElem? (i := 4) rfl)) (hts (.initialized "java/lang/Math") (List.mem_of_getElem? (i := 5) rfl)) (hts (.code Lib.Math.abs.name Lib.Math.abs.code 1 (some .int)) (List.mem_of_getElem? (i := 6) rfl)) (Nat.le_of_ble_eq_true rfl) (Nat.le_of_ble_eq_true rfl) (Nat.zero_le _) (Nat.zero_le _) dX2_least_35 ?_
            rw [mabs_eq]
            refine lv_istore_n (lv' := [(1, .int (abI (atL L k))), (2, .int (nI k)), (0, .ref y0)]) hx hb dX2_least_38 rfl hl (by decide) rfl (fun ls hl => ?_)
            rw [show abI (atL L k) = leS L (k + 1) from by show _ = (if _ then _ else _); rw [if_pos (by first | exact Or.inl c13 | exact Or.inr (Int32.not_le.mp c26))]] at hl
            refine lv_iinc (v := nI (k + 1)) (lv' := [(2, .int (nI (k + 1))), (1, .int (leS L (k + 1))), (0, .ref y0)]) hx hb dX2_least_39 hl (k := 1) rfl (g_inc _) (by decide) rfl (fun ls hl => ?_)
            refine lv_goto (tgt := 4) hx hb dX2_least_42 (by decide) ?_
            exact ih4 (k + 1) (by omega) (by omega) _ (lv_sub hl [0, 1, 2] rfl)
  exact lp4 ((L.length - 0) + 1) 0 (Nat.zero_le _) (Nat.lt_succ_self _) _ (lv_sub hl [0, 1, 2] rfl)

abbrev mt_X2_sign_rm : Room := { frames := 2, cells := 0, slots := 0, locals := 43 }
set_option maxHeartbeats 4000000 in
set_option maxRecDepth 100000 in
theorem mt_X2_sign (l : Launch) (dC : Nat → ClassId) (dI : Nat → Nat → Nat) (cA : ClassId) (sz : Nat) (y0 : Nat) (q1 : Nat) (q2 : Nat) (q3 : Nat) (q4 : Nat) (q5 : Nat) (rn : Nat) (tv : Int32) (sf : Nat → Int32) (lf : Nat → Int32) (rf : Nat → Int32) (nf : Nat → Int32) (ct : Int32) (il : Int32) (gf : Nat → Int32) (L : List Int32) (hR : MR L rf) (hrn : rn ∈ rnS) (hok : okL rn L) : Met l yX2_sign wsX2_sign mt_X2_sign_rm (va_Pc [.ref y0] (gB (dC, dI) [(cA, .int)] [(y0, .inr (2, [.int tv, .int (nI rn), .ref q1, .ref q2, .int (nI L.length), .ref q3, .ref q4, .int ct, .int il, .ref q5])), (q1, .inl (cA, (2, .inl sf))), (q2, .inl (cA, (60, .inl lf))), (q3, .inl (cA, (320, .inl rf))), (q4, .inl (cA, (320, .inl nf))), (q5, .inl (cA, (6, .inl gf)))] sz)) (gR (some (.int (sgI (loL L (L.length - 1)))))) 0 0 (fun _ => False) := by
  refine g_ofR (cc := cX2_sign) (maxL := 3) (ret := (some .int)) (by decide) rfl (Nat.le_of_ble_eq_true rfl) (fun p e s m below meth c ls hx hb hr hml hts hown hlocks hP hK hl hD => ?_)
  have hS : va_S (fun _ => True) s.heap s.heap [] := va_S.rf
  have hl : lv_has ls 3 [(0, .ref y0)] := hl
  have hLm := hR.1
  refine lv_aload_n hx hb dX2_sign_0 rfl (lv_at hl 0 rfl) ?_
  refine g_RVi (As := []) (rest := []) ⟨hx, hb, hml, hown, hts⟩ (mt_X2_least l dC dI cA s.heap.size y0 q1 q2 q3 q4 q5 rn tv sf lf rf nf ct il gf L hR) (cwV 0 hts gX2_sign_X2_least rfl rfl rfl hdX2_least ⟨Nat.le_of_ble_eq_true rfl, Nat.le_of_ble_eq_true rfl⟩) hP hK hD [0, 1, 2, 3, 4, 5] (by decide) rfl (va_recv hK hP (ci := 2) (q0 := 0) rfl rfl) rfl hl.1 rfl (Nat.le_of_ble_eq_true rfl) dX2_sign_1 (Nat.zero_le _) (Nat.zero_le _) ?_
  refine lv_istore_n (lv' := [(1, .int (leS L L.length)), (0, .ref y0)]) hx hb dX2_sign_4 rfl hl (by decide) rfl (fun ls hl => ?_)
  refine lv_iconst (v := 0) hx hb dX2_sign_5 (by decide) ?_
  refine lv_istore_n (lv' := [(2, .int 0), (1, .int (leS L L.length)), (0, .ref y0)]) hx hb dX2_sign_6 rfl hl (by decide) rfl (fun ls hl => ?_)
  have lp7 : ∀ (d : Nat) (k : Nat) (hk9 : k ≤ L.length) (hno9 : ∀ j, j < k → ¬ abI (atL L j) = leS L L.length), L.length - k < d → ∀ ls : Array Slot, lv_has ls 3 [(2, .int (nI k)), (1, .int (leS L L.length)), (0, .ref y0)] → W p l e mt_X2_sign_rm s m ([.ref y0] : List Value).toArray below meth c s.heap [] 0 0 (MQ below (gR (some (.int (sgI (loL L (L.length - 1)))))) ([.ref y0] : List Value).toArray s 0 0 (fun _ => False)) (F0 m 7 ls []) := by
    intro d
    induction d with
    | zero => intro k hk9 hno9 hd; exact absurd hd (Nat.not_lt_zero _)
    | succ d ih7 =>
      intro k hk9 hno9 hd ls hl
      refine lv_iload_n hx hb dX2_sign_7 rfl (lv_at hl 0 rfl) ?_
      refine lv_aload_n hx hb dX2_sign_8 rfl (lv_at hl 2 rfl) ?_
      refine va_get (D := (dC, dI)) (ci := 2) (v := .int (nI L.length)) (C := RX2) (T := TX2) (N := 10) hx hb hts (in_X2_sign_2) hown hK hP 0 rfl rfl 4 (by decide) (hts (.fieldLink RX2 36 "BraidWordsModel" "many" "I") (List.mem_of_getElem? (i := 1) rfl)) (fun _ h9 => h9) rfl dX2_sign_9 ?_
      refine lv_icmp_ge (tgt := 49) hx hb dX2_sign_12 (by decide) (fun c12 => ?_) (fun c12 => ?_)
      · have c12 : L.length ≤ k := g_geT k L.length (by omega) (by omega) c12
        refine lv_iconst (v := 0) hx hb dX2_sign_49 (by decide) ?_
        exact g_endRi hx hb hr hlocks dX2_sign_50 (sign_none hrn hok (fun j h => hno9 j (by omega)))
      · have c12 : k < L.length := g_geF k L.length (by omega) (by omega) c12
        refine lv_aload_n hx hb dX2_sign_15 rfl (lv_at hl 2 rfl) ?_
        refine va_get (D := (dC, dI)) (ci := 2) (v := .ref q3) (C := RX2) (T := TX2) (N := 10) hx hb hts (in_X2_sign_2) hown hK hP 0 rfl rfl 5 (by decide) (hts (.fieldLink RX2 20 "BraidWordsModel" "row" "[I") (List.mem_of_getElem? (i := 2) rfl)) (fun _ h9 => h9) rfl dX2_sign_16 ?_
        refine lv_iload_n hx hb dX2_sign_19 rfl (lv_at hl 0 rfl) ?_
        refine va_iald hx hb hK hP 3 0 rfl rfl (vp_in_nI (by omega) (by decide)) dX2_sign_20 ?_
        rw [show (nI k).toNatClampNeg = k from nI_clamp (by omega)]
        rw [hR.2 k (by omega)]
        refine va_mabs hx hb (hml.trans hl.1.symm) hown (hts (.methodLink RX2 47 Lib.Math.abs.name) (List.mem_of_getElem? (i := 3) rfl)) (hts (.static Lib.Math.abs.name) (List.mem_of_getElem? (i := 4) rfl)) (hts (.initialized "java/lang/Math") (List.mem_of_getElem? (i := 5) rfl)) (hts (.code Lib.Math.abs.name Lib.Math.abs.code 1 (some .int)) (List.mem_of_getElem? (i := 6) rfl)) (Nat.le_of_ble_eq_true rfl) (Nat.le_of_ble_eq_true rfl) (Nat.zero_le _) (Nat.zero_le _) dX2_sign_21 ?_
        rw [mabs_eq]
        refine lv_iload_n hx hb dX2_sign_24 rfl (lv_at hl 1 rfl) ?_
        refine lv_icmp_ne (tgt := 43) hx hb dX2_sign_25 (by decide) (fun c25 => ?_) (fun c25 => ?_)
        · refine lv_iinc (v := nI (k + 1)) (lv' := [(2, .int (nI (k + 1))), (1, .int (leS L L.length)), (0, .ref y0)]) hx hb dX2_sign_43 hl (k := 0) rfl (g_inc _) (by decide) rfl (fun ls hl => ?_)
          refine lv_goto (tgt := 7) hx hb dX2_sign_46 (by decide) ?_
          exact ih7 (k + 1) (by omega) (fun j h => by by_cases c : j = k; (subst c; exact c25); (exact hno9 j (by omega))) (by omega) _ (lv_sub hl [0, 1, 2] rfl)
        · refine lv_aload_n hx hb dX2_sign_28 rfl (lv_at hl 2 rfl) ?_
          refine va_get (D := (dC, dI)) (ci := 2) (v := .ref q3) (C := RX2) (T := TX2) (N := 10) hx hb hts (in_X2_sign_2) hown hK hP 0 rfl rfl 5 (by decide) (hts (.fieldLink RX2 20 "BraidWordsModel" "row" "[I") (List.mem_of_getElem? (i := 2) rfl)) (fun _ h9 => h9) rfl dX2_sign_29 ?_
          refine lv_iload_n hx hb dX2_sign_32 rfl (lv_at hl 0 rfl) ?_
          refine va_iald hx hb hK hP 3 0 rfl rfl (vp_in_nI (by omega) (by decide)) dX2_sign_33 ?_
          rw [show (nI k).toNatClampNeg = k from nI_clamp (by omega)]
          rw [hR.2 k (by omega)]
          refine lv_if_le (tgt := 41) hx hb dX2_sign_34 (by decide) (fun c34 => ?_) (fun c34 => ?_)
          · refine lv_iconst (v := (-1)) hx hb dX2_sign_41 (by decide) ?_
            exact g_endRi hx hb hr hlocks dX2_sign_42 (sign_found hrn hok (by omega) hno9 c25 (by first | exact Or.inl ⟨c34, rfl⟩ | exact Or.inr ⟨c34, rfl⟩))
          · refine lv_iconst (v := 1) hx hb dX2_sign_37 (by decide) ?_
            refine lv_goto (tgt := 42) hx hb dX2_sign_38 (by decide) ?_
            exact g_endRi hx hb hr hlocks dX2_sign_42 (sign_found hrn hok (by omega) hno9 c25 (by first | exact Or.inl ⟨c34, rfl⟩ | exact Or.inr ⟨c34, rfl⟩))
  exact lp7 ((L.length - 0) + 1) 0 (Nat.zero_le _) (fun j h => absurd h (Nat.not_lt_zero j)) (Nat.lt_succ_self _) _ (lv_sub hl [0, 1, 2] rfl)
