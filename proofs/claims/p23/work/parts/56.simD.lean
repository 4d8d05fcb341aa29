/-! 56: a plain form by hand -/
theorem hdX2_cut : yX2_cut.cls ≠ "java/lang/invoke/MethodHandle" ∧ yX2_cut.cls ≠ "java/lang/invoke/VarHandle" ∧ (parseMethodDescriptor yX2_cut.desc).map (fun d => d.parameters.length) = some 2 := by decide +kernel
theorem hdX2_handle : yX2_handle.cls ≠ "java/lang/invoke/MethodHandle" ∧ yX2_handle.cls ≠ "java/lang/invoke/VarHandle" ∧ (parseMethodDescriptor yX2_handle.desc).map (fun d => d.parameters.length) = some 1 := by decide +kernel
abbrev mt_X2_plainS_rm : Room := { frames := 2, cells := 21000, slots := 1125000, locals := 50 }
set_option maxHeartbeats 4000000 in
set_option maxRecDepth 100000 in
/-- Sim.plain, where it is not lost -/
theorem mt_X2_plainS (l : Launch) (dC : Nat → ClassId) (dI : Nat → Nat → Nat) (cA : ClassId) (sz : Nat) (a : Nat) (L : List Int32) (z : Nat × List Int32) (hL : okW L) (hl1 : L.length ≤ 100) (hz : plain L = some z) : Met l yX2_plain wsX2_plain mt_X2_plainS_rm (va_Pc [.ref a] (gBX xT (dC, dI) [(cA, .int)] [(a, .inl (cA, (L.length, .inl (atL L))))] sz)) (gQ (dC, dI) (fun u : Nat => some (.ref u)) (fun u : Nat => True) (fun u : Nat => [(a, .inl (cA, (L.length, .inl (atL L)))), (u, .inl (cA, ((z.2 ++ [nI z.1]).length, .inl (atL (z.2 ++ [nI z.1])))))]) (va_A [(a, .inl (cA, (L.length, .inl (atL L))))] sz)) 21000 1125000 (va_A [(a, .inl (cA, (L.length, .inl (atL L))))] sz) := by
  refine g_ofQ (cc := cX2_plain) (maxL := 4) (ret := (some (.array .int))) (by decide) rfl (Nat.le_of_ble_eq_true rfl) (fun p e s m below meth c ls hx hb hr hml hts hown hlocks hP hK hl hin A hA hD hS hXX => ?_)
  have hl : lv_has ls 4 [(0, .ref a)] := hl
  have hW := hL
  have hlt := hl1
  have hm : mpK 0 L = plain L := mpK_zero
  refine lv_aload_n hx hb dX2_plain_0 rfl (lv_at hl 0 rfl) ?_
  refine lv_astore_n (lv' := [(1, .ref a), (0, .ref a)]) hx hb dX2_plain_1 rfl hl (by decide) rfl (fun ls hl => ?_)
  refine lv_iconst (v := 0) hx hb dX2_plain_2 (by decide) ?_
  refine lv_istore_n (lv' := [(2, .int 0), (1, .ref a), (0, .ref a)]) hx hb dX2_plain_3 rfl hl (by decide) rfl (fun ls hl => ?_)
  have lp4 : ∀ (d : Nat) (k : Nat) (Lt : List Int32) (q : Nat) (hk9 : k ≤ 101) (hW : okW Lt) (hlt : Lt.length ≤ 100) (hm : mpK k Lt = plain L), 101 - k < d → ∀ (cells slots : Nat), cells ≤ k * 202 → slots ≤ k * 10800 → ∀ (H : Heap) (locs : List Loc), va_P (dC, dI) vwCl [(a, .inl (cA, (L.length, .inl (atL L)))), (q, .inl (cA, (Lt.length, .inl (atL Lt))))] H → va_D A [(a, .inl (cA, (L.length, .inl (atL L)))), (q, .inl (cA, (Lt.length, .inl (atL Lt))))] → va_S A s.heap H locs → ∀ ls : Array Slot, lv_has ls 4 [(2, .int (nI k)), (1, .ref q), (0, .ref a)] → W p l e mt_X2_plainS_rm s m ([.ref a] : List Value).toArray below meth c H locs cells slots (MQ below (gQ (dC, dI) (fun u : Nat => some (.ref u)) (fun u : Nat => True) (fun u : Nat => [(a, .inl (cA, (L.length, .inl (atL L)))), (u, .inl (cA, ((z.2 ++ [nI z.1]).length, .inl (atL (z.2 ++ [nI z.1])))))]) A) ([.ref a] : List Value).toArray s 21000 1125000 A) (F0 m 4 ls []) := by
    intro d
    induction d with
    | zero => intro k Lt q hk9 hW hlt hm hd; exact absurd hd (Nat.not_lt_zero _)
    | succ d ih4 =>
      intro k Lt q hk9 hW hlt hm hd cells slots hcz hsz H locs hP hD hS ls hl
      refine lv_iload_n hx hb dX2_plain_4 rfl (lv_at hl 0 rfl) ?_
      refine lv_bipush (v := 100) hx hb dX2_plain_5 (by decide) ?_
      refine lv_icmp_gt (tgt := 52) hx hb dX2_plain_7 (by decide) (fun c7 => ?_) (fun c7 => ?_)
      · have c7 : 100 < k := g_gtT k 100 (by omega) (by omega) c7
        exact absurd ((mpK_out c7).symm.trans (hm.trans hz)) (fun q => nomatch q)
      · have c7 : k ≤ 100 := g_gtF k 100 (by omega) (by omega) c7
        rcases hE : enF Lt 0 with _ | e9
        · refine lv_aload_n hx hb dX2_plain_10 rfl (lv_at hl 1 rfl) ?_
          refine g_QS xT_st (As := [.ref q]) (rest := []) (wr := [(a, .inl (cA, (L.length, .inl (atL L))))]) ⟨hx, hb, hml, hown, hts⟩ (mt_X2_handleN l dC dI cA H.size q Lt hW (by first | omega | (simp only [List.length_append, List.length_cons, List.length_nil, List.length_set, turnL_len]; omega)) hE) (va_cwS 1 hts gX2_plain_X2_handle rfl rfl rfl hdX2_handle ⟨Nat.le_of_ble_eq_true rfl, Nat.le_of_ble_eq_true rfl⟩) hP hK hD hS hA trivial [1] (by decide) rfl [0] rfl (by decide) (by decide) rfl hl.1 rfl (Nat.le_of_ble_eq_true rfl) dX2_plain_11 (by show _ ≤ 21000; omega) (by show _ ≤ 1125000; omega) (fun u H locs hw_1 hP hD hS => ?_)
          have hw_1 : True := hw_1
          have hP : va_P (dC, dI) vwCl [(a, .inl (cA, (L.length, .inl (atL L)))), (q, .inl (cA, (Lt.length, .inl (atL Lt))))] H := hP
          have hD : va_D A [(a, .inl (cA, (L.length, .inl (atL L)))), (q, .inl (cA, (Lt.length, .inl (atL Lt))))] := hD
          refine W.eq (g2 := F0 m 14 ls [.null]) rfl ?_
          refine lv_astore_nN (lv' := [(3, .null), (2, .int (nI k)), (1, .ref q), (0, .ref a)]) hx hb dX2_plain_14 rfl hl (by decide) rfl (fun ls hl => ?_)
          refine lv_aload_nN hx hb dX2_plain_15 rfl (lv_at hl 0 rfl) ?_
          refine lv_ifnonnullN hx hb dX2_plain_16 ?_
          refine lv_aload_n hx hb dX2_plain_19 rfl (lv_at hl 2 rfl) ?_
          refine lv_iconst (v := 1) hx hb dX2_plain_20 (by decide) ?_
          refine va_newa (atype := .int) (ty := .int) (a0 := (1, .inl (fun _ => 0))) (N' := 1) hx hb (hts (.arrayClass .int) (List.mem_of_getElem? (i := 1) rfl)) rfl hK hP hD hS hA (fun _ => rfl) (by decide) (by decide) (by decide) (by show _ ≤ 21000; omega) (by show _ ≤ 1125000; omega) dX2_plain_21 (fun nq_2 cA_3 H hK9 hP hD hS => ?_)
          have eA9 : cA_3 = cA := Option.some.inj ((hK9.2 1 _ rfl).2.symm.trans (hK.2 0 _ rfl).2)
          rw [eA9] at hP hD
          have hP : va_P (dC, dI) vwCl [(a, .inl (cA, (L.length, .inl (atL L)))), (q, .inl (cA, (Lt.length, .inl (atL Lt)))), (nq_2, .inl (cA, (1, .inl (fun _ => 0))))] H := hP
          have hD : va_D A [(a, .inl (cA, (L.length, .inl (atL L)))), (q, .inl (cA, (Lt.length, .inl (atL Lt)))), (nq_2, .inl (cA, (1, .inl (fun _ => 0))))] := hD
          refine lv_dup hx hb dX2_plain_23 rfl ?_
          refine lv_iconst (v := 0) hx hb dX2_plain_24 (by decide) ?_
          refine lv_iload_n hx hb dX2_plain_25 rfl (lv_at hl 1 rfl) ?_
          refine va_iast hx hb hK hP hD hS 2 0 rfl rfl (vp_in_nI (n := 0) (by omega) (by decide)) dX2_plain_26 (fun H locs hP hD hS => ?_)
          rw [show (0 : Int32).toNatClampNeg = 0 from by decide] at hP hD
          have hP : va_P (dC, dI) vwCl [(a, .inl (cA, (L.length, .inl (atL L)))), (q, .inl (cA, (Lt.length, .inl (atL Lt)))), (nq_2, .inl (cA, (1, .inl (upd (fun _ => 0) 0 (nI k)))))] H := hP
          have hD : va_D A [(a, .inl (cA, (L.length, .inl (atL L)))), (q, .inl (cA, (Lt.length, .inl (atL Lt)))), (nq_2, .inl (cA, (1, .inl (upd (fun _ => 0) 0 (nI k)))))] := hD
          have hP := va_canon hP 2 rfl [nI k] rfl ar1
          have hD := va_canonD hD 2 rfl [nI k] (cA := cA)
          have hP : va_P (dC, dI) vwCl [(a, .inl (cA, (L.length, .inl (atL L)))), (q, .inl (cA, (Lt.length, .inl (atL Lt)))), (nq_2, .inl (cA, ([nI k].length, .inl (atL [nI k]))))] H := hP
          have hD : va_D A [(a, .inl (cA, (L.length, .inl (atL L)))), (q, .inl (cA, (Lt.length, .inl (atL Lt)))), (nq_2, .inl (cA, ([nI k].length, .inl (atL [nI k]))))] := hD
          have hl_4 : [nI k].length = 1 := rfl
          refine g_QS xT_st (As := [.ref q, .ref nq_2]) (rest := []) (wr := [(a, .inl (cA, (L.length, .inl (atL L))))]) ⟨hx, hb, hml, hown, hts⟩ (mt_X2_cat l dC dI cA H.size q nq_2 Lt [nI k] (by first | omega | (simp only [List.length_append, List.length_cons, List.length_nil, List.length_set, turnL_len]; omega))) (va_cwS 2 hts gX2_plain_X2_cat rfl rfl rfl hdX2_cat ⟨Nat.le_of_ble_eq_true rfl, Nat.le_of_ble_eq_true rfl⟩) hP hK hD hS hA trivial [1, 2] (by decide) rfl [0] rfl (by decide) (by decide) rfl hl.1 rfl (Nat.le_of_ble_eq_true rfl) dX2_plain_27 (by show _ ≤ 21000; omega) (by show _ ≤ 1125000; omega) (fun u H locs hw_6 hP hD hS => ?_)
          obtain ⟨q_5, rfl⟩ : ∃ z, z = u := ⟨_, rfl⟩
          have hw_6 : True := hw_6
          have hP : va_P (dC, dI) vwCl [(a, .inl (cA, (L.length, .inl (atL L)))), (q, .inl (cA, (Lt.length, .inl (atL Lt)))), (nq_2, .inl (cA, ([nI k].length, .inl (atL [nI k])))), (q_5, .inl (cA, ((Lt ++ [nI k]).length, .inl (atL (Lt ++ [nI k])))))] H := hP
          have hD : va_D A [(a, .inl (cA, (L.length, .inl (atL L)))), (q, .inl (cA, (Lt.length, .inl (atL Lt)))), (nq_2, .inl (cA, ([nI k].length, .inl (atL [nI k])))), (q_5, .inl (cA, ((Lt ++ [nI k]).length, .inl (atL (Lt ++ [nI k])))))] := hD
          refine W.eq (g2 := F0 m 30 ls [.ref q_5]) rfl ?_
          have hP := g_subP hP [0, 3] (wc := [(a, .inl (cA, (L.length, .inl (atL L)))), (q_5, .inl (cA, ((Lt ++ [nI k]).length, .inl (atL (Lt ++ [nI k])))))]) rfl
          have hD := hD.sub (ws' := [(a, .inl (cA, (L.length, .inl (atL L)))), (q_5, .inl (cA, ((Lt ++ [nI k]).length, .inl (atL (Lt ++ [nI k])))))]) [0, 3] (by decide) rfl
          have hzz : z = (k, Lt) := by rw [mpK_end hE (by omega), hz] at hm; exact (Option.some.inj hm).symm
          rw [show (Lt ++ [nI k]) = (z.2 ++ [nI z.1]) from (congrArg (fun y : Nat × List Int32 => y.2 ++ [nI y.1]) hzz).symm] at hP hD
          have hP : va_P (dC, dI) vwCl [(a, .inl (cA, (L.length, .inl (atL L)))), (q_5, .inl (cA, ((z.2 ++ [nI z.1]).length, .inl (atL (z.2 ++ [nI z.1])))))] H := hP
          have hD : va_D A [(a, .inl (cA, (L.length, .inl (atL L)))), (q_5, .inl (cA, ((z.2 ++ [nI z.1]).length, .inl (atL (z.2 ++ [nI z.1])))))] := hD
          exact g_endQa hx hb hr (Or.inr ⟨_, rfl⟩) (Or.inr ⟨_, rfl⟩) hlocks hP hD hS dX2_plain_30 q_5 rfl rfl trivial (by omega) (by omega)
        · obtain ⟨-, he2, ⟨b9, hbg⟩, -⟩ := enF_spec hE
          have hcl := cut_le (bg_lt hbg) he2 hlt
          obtain ⟨hWc, -⟩ := cut_eq sm_rep hW he2 hbg
          refine lv_aload_n hx hb dX2_plain_10 rfl (lv_at hl 1 rfl) ?_
          refine g_QS xT_st (As := [.ref q]) (rest := []) (wr := [(a, .inl (cA, (L.length, .inl (atL L))))]) ⟨hx, hb, hml, hown, hts⟩ (mt_X2_handleS l dC dI cA H.size q Lt b9 e9 hW (by first | omega | (simp only [List.length_append, List.length_cons, List.length_nil, List.length_set, turnL_len]; omega)) hE hbg) (va_cwS 1 hts gX2_plain_X2_handle rfl rfl rfl hdX2_handle ⟨Nat.le_of_ble_eq_true rfl, Nat.le_of_ble_eq_true rfl⟩) hP hK hD hS hA trivial [1] (by decide) rfl [0] rfl (by decide) (by decide) rfl hl.1 rfl (Nat.le_of_ble_eq_true rfl) dX2_plain_11 (by show _ ≤ 21000; omega) (by show _ ≤ 1125000; omega) (fun u H locs hw_8 hP hD hS => ?_)
          obtain ⟨q_7, rfl⟩ : ∃ z, z = u := ⟨_, rfl⟩
          have hw_8 : True := hw_8
          have hP : va_P (dC, dI) vwCl [(a, .inl (cA, (L.length, .inl (atL L)))), (q, .inl (cA, (Lt.length, .inl (atL Lt)))), (q_7, .inl (cA, ([nI b9, nI e9].length, .inl (atL [nI b9, nI e9]))))] H := hP
          have hD : va_D A [(a, .inl (cA, (L.length, .inl (atL L)))), (q, .inl (cA, (Lt.length, .inl (atL Lt)))), (q_7, .inl (cA, ([nI b9, nI e9].length, .inl (atL [nI b9, nI e9]))))] := hD
          refine W.eq (g2 := F0 m 14 ls [.ref q_7]) rfl ?_
          refine lv_astore_n (lv' := [(3, .ref q_7), (2, .int (nI k)), (1, .ref q), (0, .ref a)]) hx hb dX2_plain_14 rfl hl (by decide) rfl (fun ls hl => ?_)
          refine lv_aload_n hx hb dX2_plain_15 rfl (lv_at hl 0 rfl) ?_
          refine lv_ifnonnull (tgt := 31) hx hb dX2_plain_16 (by decide) ?_
          refine lv_aload_n hx hb dX2_plain_31 rfl (lv_at hl 2 rfl) ?_
          refine lv_aload_n hx hb dX2_plain_32 rfl (lv_at hl 0 rfl) ?_
          refine g_QS xT_st (As := [.ref q, .ref q_7]) (rest := []) (wr := [(a, .inl (cA, (L.length, .inl (atL L))))]) ⟨hx, hb, hml, hown, hts⟩ (mt_X2_cut l dC dI cA H.size q q_7 Lt b9 e9 hW hlt he2 hbg) (va_cwS 2 hts gX2_plain_X2_cut rfl rfl rfl hdX2_cut ⟨Nat.le_of_ble_eq_true rfl, Nat.le_of_ble_eq_true rfl⟩) hP hK hD hS hA trivial [1, 2] (by decide) rfl [0] rfl (by decide) (by decide) rfl hl.1 rfl (Nat.le_of_ble_eq_true rfl) dX2_plain_33 (by show _ ≤ 21000; omega) (by show _ ≤ 1125000; omega) (fun u H locs hw_10 hP hD hS => ?_)
          obtain ⟨q_9, rfl⟩ : ∃ z, z = u := ⟨_, rfl⟩
          have hw_10 : True := hw_10
          have hP : va_P (dC, dI) vwCl [(a, .inl (cA, (L.length, .inl (atL L)))), (q, .inl (cA, (Lt.length, .inl (atL Lt)))), (q_7, .inl (cA, ([nI b9, nI e9].length, .inl (atL [nI b9, nI e9])))), (q_9, .inl (cA, ((cutL Lt b9 e9).length, .inl (atL (cutL Lt b9 e9)))))] H := hP
          have hD : va_D A [(a, .inl (cA, (L.length, .inl (atL L)))), (q, .inl (cA, (Lt.length, .inl (atL Lt)))), (q_7, .inl (cA, ([nI b9, nI e9].length, .inl (atL [nI b9, nI e9])))), (q_9, .inl (cA, ((cutL Lt b9 e9).length, .inl (atL (cutL Lt b9 e9)))))] := hD
          refine W.eq (g2 := F0 m 36 ls [.ref q_9]) rfl ?_
          refine lv_astore_n (lv' := [(1, .ref q_9), (3, .ref q_7), (2, .int (nI k)), (0, .ref a)]) hx hb dX2_plain_36 rfl hl (by decide) rfl (fun ls hl => ?_)
          refine lv_aload_n hx hb dX2_plain_37 rfl (lv_at hl 0 rfl) ?_
          refine va_alen (v := nI ((cutL Lt b9 e9).length)) hx hb hK hP 3 0 rfl rfl rfl dX2_plain_38 ?_
          refine lv_bipush (v := 100) hx hb dX2_plain_39 (by decide) ?_
          refine lv_icmp_le (tgt := 46) hx hb dX2_plain_41 (by decide) (fun c41 => ?_) (fun c41 => ?_)
          · have c41 : ((cutL Lt b9 e9).length) ≤ 100 := g_leT ((cutL Lt b9 e9).length) 100 (by omega) (by omega) c41
            refine lv_iinc (v := nI (k + 1)) (lv' := [(2, .int (nI (k + 1))), (1, .ref q_9), (3, .ref q_7), (0, .ref a)]) hx hb dX2_plain_46 hl (k := 2) rfl (g_inc _) (by decide) rfl (fun ls hl => ?_)
            refine lv_goto (tgt := 4) hx hb dX2_plain_49 (by decide) ?_
            have hP := g_subP hP [0, 3] (wc := [(a, .inl (cA, (L.length, .inl (atL L)))), (q_9, .inl (cA, ((cutL Lt b9 e9).length, .inl (atL (cutL Lt b9 e9)))))]) rfl
            have hD := hD.sub (ws' := [(a, .inl (cA, (L.length, .inl (atL L)))), (q_9, .inl (cA, ((cutL Lt b9 e9).length, .inl (atL (cutL Lt b9 e9)))))]) [0, 3] (by decide) rfl
            have hP : va_P (dC, dI) vwCl [(a, .inl (cA, (L.length, .inl (atL L)))), (q_9, .inl (cA, ((cutL Lt b9 e9).length, .inl (atL (cutL Lt b9 e9)))))] H := hP
            have hD : va_D A [(a, .inl (cA, (L.length, .inl (atL L)))), (q_9, .inl (cA, ((cutL Lt b9 e9).length, .inl (atL (cutL Lt b9 e9)))))] := hD
            exact ih4 (k + 1) (cutL Lt b9 e9) q_9 (by omega) hWc c41 ((mpK_cut hE hbg c41 (by omega)).symm.trans hm) (by omega) _ _ (by omega) (by omega) _ _ hP hD hS _ (lv_sub hl [0, 1, 3] rfl)
          · have c41 : 100 < ((cutL Lt b9 e9).length) := g_leF ((cutL Lt b9 e9).length) 100 (by omega) (by omega) c41
            exact absurd ((mpK_long hE hbg c41).symm.trans (hm.trans hz)) (fun q => nomatch q)
  refine lv_iload_n hx hb dX2_plain_4 rfl (lv_at hl 0 rfl) ?_
  refine lv_bipush (v := 100) hx hb dX2_plain_5 (by decide) ?_
  refine lv_icmp_gt (tgt := 52) hx hb dX2_plain_7 (by decide) (fun c7 => ?_) (fun c7 => ?_)
  · exact absurd c7 (by decide)
  · have c7 : 0 ≤ 100 := g_gtF 0 100 (by omega) (by omega) c7
    rcases hE : enF L 0 with _ | e9
    · refine lv_aload_n hx hb dX2_plain_10 rfl (lv_at hl 1 rfl) ?_
      refine g_QS xT_st (As := [.ref a]) (rest := []) (wr := []) ⟨hx, hb, hml, hown, hts⟩ (mt_X2_handleN l dC dI cA s.heap.size a L hW (by first | omega | (simp only [List.length_append, List.length_cons, List.length_nil, List.length_set, turnL_len]; omega)) hE) (va_cwS 1 hts gX2_plain_X2_handle rfl rfl rfl hdX2_handle ⟨Nat.le_of_ble_eq_true rfl, Nat.le_of_ble_eq_true rfl⟩) hP hK hD hS hA trivial [0] (by decide) rfl [] rfl (by decide) (by decide) rfl hl.1 rfl (Nat.le_of_ble_eq_true rfl) dX2_plain_11 (by show _ ≤ 21000; omega) (by show _ ≤ 1125000; omega) (fun u H locs hw_11 hP hD hS => ?_)
      have hw_11 : True := hw_11
      have hP : va_P (dC, dI) vwCl [(a, .inl (cA, (L.length, .inl (atL L))))] H := hP
      have hD : va_D A [(a, .inl (cA, (L.length, .inl (atL L))))] := hD
      refine W.eq (g2 := F0 m 14 ls [.null]) rfl ?_
      refine lv_astore_nN (lv' := [(3, .null), (2, .int 0), (1, .ref a), (0, .ref a)]) hx hb dX2_plain_14 rfl hl (by decide) rfl (fun ls hl => ?_)
      refine lv_aload_nN hx hb dX2_plain_15 rfl (lv_at hl 0 rfl) ?_
      refine lv_ifnonnullN hx hb dX2_plain_16 ?_
      refine lv_aload_n hx hb dX2_plain_19 rfl (lv_at hl 2 rfl) ?_
      refine lv_iconst (v := 1) hx hb dX2_plain_20 (by decide) ?_
      refine va_newa (atype := .int) (ty := .int) (a0 := (1, .inl (fun _ => 0))) (N' := 1) hx hb (hts (.arrayClass .int) (List.mem_of_getElem? (i := 1) rfl)) rfl hK hP hD hS hA (fun _ => rfl) (by decide) (by decide) (by decide) (by show _ ≤ 21000; omega) (by show _ ≤ 1125000; omega) dX2_plain_21 (fun nq_12 cA_13 H hK9 hP hD hS => ?_)
      have eA9 : cA_13 = cA := Option.some.inj ((hK9.2 1 _ rfl).2.symm.trans (hK.2 0 _ rfl).2)
      rw [eA9] at hP hD
      have hP : va_P (dC, dI) vwCl [(a, .inl (cA, (L.length, .inl (atL L)))), (nq_12, .inl (cA, (1, .inl (fun _ => 0))))] H := hP
      have hD : va_D A [(a, .inl (cA, (L.length, .inl (atL L)))), (nq_12, .inl (cA, (1, .inl (fun _ => 0))))] := hD
      refine lv_dup hx hb dX2_plain_23 rfl ?_
      refine lv_iconst (v := 0) hx hb dX2_plain_24 (by decide) ?_
      refine lv_iload_n hx hb dX2_plain_25 rfl (lv_at hl 1 rfl) ?_
      refine va_iast hx hb hK hP hD hS 1 0 rfl rfl (vp_in_nI (n := 0) (by omega) (by decide)) dX2_plain_26 (fun H locs hP hD hS => ?_)
      rw [show (0 : Int32).toNatClampNeg = 0 from by decide] at hP hD
      have hP : va_P (dC, dI) vwCl [(a, .inl (cA, (L.length, .inl (atL L)))), (nq_12, .inl (cA, (1, .inl (upd (fun _ => 0) 0 0))))] H := hP
      have hD : va_D A [(a, .inl (cA, (L.length, .inl (atL L)))), (nq_12, .inl (cA, (1, .inl (upd (fun _ => 0) 0 0))))] := hD
      have hP := va_canon hP 1 rfl [0] rfl ar1
      have hD := va_canonD hD 1 rfl [0] (cA := cA)
      have hP : va_P (dC, dI) vwCl [(a, .inl (cA, (L.length, .inl (atL L)))), (nq_12, .inl (cA, ([0].length, .inl (atL [0]))))] H := hP
      have hD : va_D A [(a, .inl (cA, (L.length, .inl (atL L)))), (nq_12, .inl (cA, ([0].length, .inl (atL [0]))))] := hD
      have hl_14 : [0].length = 1 := rfl
      refine g_QS xT_st (As := [.ref a, .ref nq_12]) (rest := []) (wr := []) ⟨hx, hb, hml, hown, hts⟩ (mt_X2_cat l dC dI cA H.size a nq_12 L [0] (by first | omega | (simp only [List.length_append, List.length_cons, List.length_nil, List.length_set, turnL_len]; omega))) (va_cwS 2 hts gX2_plain_X2_cat rfl rfl rfl hdX2_cat ⟨Nat.le_of_ble_eq_true rfl, Nat.le_of_ble_eq_true rfl⟩) hP hK hD hS hA trivial [0, 1] (by decide) rfl [] rfl (by decide) (by decide) rfl hl.1 rfl (Nat.le_of_ble_eq_true rfl) dX2_plain_27 (by show _ ≤ 21000; omega) (by show _ ≤ 1125000; omega) (fun u H locs hw_16 hP hD hS => ?_)
      obtain ⟨q_15, rfl⟩ : ∃ z, z = u := ⟨_, rfl⟩
      have hw_16 : True := hw_16
      have hP : va_P (dC, dI) vwCl [(a, .inl (cA, (L.length, .inl (atL L)))), (nq_12, .inl (cA, ([0].length, .inl (atL [0])))), (q_15, .inl (cA, ((L ++ [0]).length, .inl (atL (L ++ [0])))))] H := hP
      have hD : va_D A [(a, .inl (cA, (L.length, .inl (atL L)))), (nq_12, .inl (cA, ([0].length, .inl (atL [0])))), (q_15, .inl (cA, ((L ++ [0]).length, .inl (atL (L ++ [0])))))] := hD
      refine W.eq (g2 := F0 m 30 ls [.ref q_15]) rfl ?_
      have hP := g_subP hP [0, 2] (wc := [(a, .inl (cA, (L.length, .inl (atL L)))), (q_15, .inl (cA, ((L ++ [0]).length, .inl (atL (L ++ [0])))))]) rfl
      have hD := hD.sub (ws' := [(a, .inl (cA, (L.length, .inl (atL L)))), (q_15, .inl (cA, ((L ++ [0]).length, .inl (atL (L ++ [0])))))]) [0, 2] (by decide) rfl
      have hzz : z = (0, L) := by rw [mpK_end hE (by omega), hz] at hm; exact (Option.some.inj hm).symm
      rw [show (L ++ [0]) = (z.2 ++ [nI z.1]) from (congrArg (fun y : Nat × List Int32 => y.2 ++ [nI y.1]) hzz).symm] at hP hD
      have hP : va_P (dC, dI) vwCl [(a, .inl (cA, (L.length, .inl (atL L)))), (q_15, .inl (cA, ((z.2 ++ [nI z.1]).length, .inl (atL (z.2 ++ [nI z.1])))))] H := hP
      have hD : va_D A [(a, .inl (cA, (L.length, .inl (atL L)))), (q_15, .inl (cA, ((z.2 ++ [nI z.1]).length, .inl (atL (z.2 ++ [nI z.1])))))] := hD
      exact g_endQa hx hb hr (Or.inr ⟨_, rfl⟩) (Or.inr ⟨_, rfl⟩) hlocks hP hD hS dX2_plain_30 q_15 rfl rfl trivial (by omega) (by omega)
    · obtain ⟨-, he2, ⟨b9, hbg⟩, -⟩ := enF_spec hE
      have hcl := cut_le (bg_lt hbg) he2 hlt
      obtain ⟨hWc, -⟩ := cut_eq sm_rep hW he2 hbg
      refine lv_aload_n hx hb dX2_plain_10 rfl (lv_at hl 1 rfl) ?_
      refine g_QS xT_st (As := [.ref a]) (rest := []) (wr := []) ⟨hx, hb, hml, hown, hts⟩ (mt_X2_handleS l dC dI cA s.heap.size a L b9 e9 hW (by first | omega | (simp only [List.length_append, List.length_cons, List.length_nil, List.length_set, turnL_len]; omega)) hE hbg) (va_cwS 1 hts gX2_plain_X2_handle rfl rfl rfl hdX2_handle ⟨Nat.le_of_ble_eq_true rfl, Nat.le_of_ble_eq_true rfl⟩) hP hK hD hS hA trivial [0] (by decide) rfl [] rfl (by decide) (by decide) rfl hl.1 rfl (Nat.le_of_ble_eq_true rfl) dX2_plain_11 (by show _ ≤ 21000; omega) (by show _ ≤ 1125000; omega) (fun u H locs hw_18 hP hD hS => ?_)
      obtain ⟨q_17, rfl⟩ : ∃ z, z = u := ⟨_, rfl⟩
      have hw_18 : True := hw_18
      have hP : va_P (dC, dI) vwCl [(a, .inl (cA, (L.length, .inl (atL L)))), (q_17, .inl (cA, ([nI b9, nI e9].length, .inl (atL [nI b9, nI e9]))))] H := hP
      have hD : va_D A [(a, .inl (cA, (L.length, .inl (atL L)))), (q_17, .inl (cA, ([nI b9, nI e9].length, .inl (atL [nI b9, nI e9]))))] := hD
      refine W.eq (g2 := F0 m 14 ls [.ref q_17]) rfl ?_
      refine lv_astore_n (lv' := [(3, .ref q_17), (2, .int 0), (1, .ref a), (0, .ref a)]) hx hb dX2_plain_14 rfl hl (by decide) rfl (fun ls hl => ?_)
      refine lv_aload_n hx hb dX2_plain_15 rfl (lv_at hl 0 rfl) ?_
      refine lv_ifnonnull (tgt := 31) hx hb dX2_plain_16 (by decide) ?_
      refine lv_aload_n hx hb dX2_plain_31 rfl (lv_at hl 2 rfl) ?_
      refine lv_aload_n hx hb dX2_plain_32 rfl (lv_at hl 0 rfl) ?_
      refine g_QS xT_st (As := [.ref a, .ref q_17]) (rest := []) (wr := []) ⟨hx, hb, hml, hown, hts⟩ (mt_X2_cut l dC dI cA H.size a q_17 L b9 e9 hW hlt he2 hbg) (va_cwS 2 hts gX2_plain_X2_cut rfl rfl rfl hdX2_cut ⟨Nat.le_of_ble_eq_true rfl, Nat.le_of_ble_eq_true rfl⟩) hP hK hD hS hA trivial [0, 1] (by decide) rfl [] rfl (by decide) (by decide) rfl hl.1 rfl (Nat.le_of_ble_eq_true rfl) dX2_plain_33 (by show _ ≤ 21000; omega) (by show _ ≤ 1125000; omega) (fun u H locs hw_20 hP hD hS => ?_)
      obtain ⟨q_19, rfl⟩ : ∃ z, z = u := ⟨_, rfl⟩
      have hw_20 : True := hw_20
      have hP : va_P (dC, dI) vwCl [(a, .inl (cA, (L.length, .inl (atL L)))), (q_17, .inl (cA, ([nI b9, nI e9].length, .inl (atL [nI b9, nI e9])))), (q_19, .inl (cA, ((cutL L b9 e9).length, .inl (atL (cutL L b9 e9)))))] H := hP
      have hD : va_D A [(a, .inl (cA, (L.length, .inl (atL L)))), (q_17, .inl (cA, ([nI b9, nI e9].length, .inl (atL [nI b9, nI e9])))), (q_19, .inl (cA, ((cutL L b9 e9).length, .inl (atL (cutL L b9 e9)))))] := hD
      refine W.eq (g2 := F0 m 36 ls [.ref q_19]) rfl ?_
      refine lv_astore_n (lv' := [(1, .ref q_19), (3, .ref q_17), (2, .int 0), (0, .ref a)]) hx hb dX2_plain_36 rfl hl (by decide) rfl (fun ls hl => ?_)
      refine lv_aload_n hx hb dX2_plain_37 rfl (lv_at hl 0 rfl) ?_
      refine va_alen (v := nI ((cutL L b9 e9).length)) hx hb hK hP 2 0 rfl rfl rfl dX2_plain_38 ?_
      refine lv_bipush (v := 100) hx hb dX2_plain_39 (by decide) ?_
      refine lv_icmp_le (tgt := 46) hx hb dX2_plain_41 (by decide) (fun c41 => ?_) (fun c41 => ?_)
      · have c41 : ((cutL L b9 e9).length) ≤ 100 := g_leT ((cutL L b9 e9).length) 100 (by omega) (by omega) c41
        refine lv_iinc (v := 1) (lv' := [(2, .int 1), (1, .ref q_19), (3, .ref q_17), (0, .ref a)]) hx hb dX2_plain_46 hl (k := 2) rfl (by decide) (by decide) rfl (fun ls hl => ?_)
        refine lv_goto (tgt := 4) hx hb dX2_plain_49 (by decide) ?_
        have hP := g_subP hP [0, 2] (wc := [(a, .inl (cA, (L.length, .inl (atL L)))), (q_19, .inl (cA, ((cutL L b9 e9).length, .inl (atL (cutL L b9 e9)))))]) rfl
        have hD := hD.sub (ws' := [(a, .inl (cA, (L.length, .inl (atL L)))), (q_19, .inl (cA, ((cutL L b9 e9).length, .inl (atL (cutL L b9 e9)))))]) [0, 2] (by decide) rfl
        have hP : va_P (dC, dI) vwCl [(a, .inl (cA, (L.length, .inl (atL L)))), (q_19, .inl (cA, ((cutL L b9 e9).length, .inl (atL (cutL L b9 e9)))))] H := hP
        have hD : va_D A [(a, .inl (cA, (L.length, .inl (atL L)))), (q_19, .inl (cA, ((cutL L b9 e9).length, .inl (atL (cutL L b9 e9)))))] := hD
        exact lp4 ((101 - 1) + 1) 1 (cutL L b9 e9) q_19 (by omega) hWc c41 ((mpK_cut hE hbg c41 (by omega)).symm.trans hm) (Nat.lt_succ_self _) _ _ (by omega) (by omega) _ _ hP hD hS _ (lv_sub hl [0, 1, 3] rfl)
      · have c41 : 100 < ((cutL L b9 e9).length) := g_leF ((cutL L b9 e9).length) 100 (by omega) (by omega) c41
        exact absurd ((mpK_long hE hbg c41).symm.trans (hm.trans hz)) (fun q => nomatch q)

abbrev mt_X2_plainN_rm : Room := { frames := 2, cells := 21000, slots := 1125000, locals := 50 }
set_option maxHeartbeats 4000000 in
set_option maxRecDepth 100000 in
/-- Sim.plain, where it is lost -/
theorem mt_X2_plainN (l : Launch) (dC : Nat → ClassId) (dI : Nat → Nat → Nat) (cA : ClassId) (sz : Nat) (a : Nat) (L : List Int32) (hL : okW L) (hl1 : L.length ≤ 100) (hz : plain L = none) : Met l yX2_plain wsX2_plain mt_X2_plainN_rm (va_Pc [.ref a] (gBX xT (dC, dI) [(cA, .int)] [(a, .inl (cA, (L.length, .inl (atL L))))] sz)) (gQ (dC, dI) (fun u : Unit => some .null) (fun u : Unit => True) (fun u : Unit => [(a, .inl (cA, (L.length, .inl (atL L))))]) (va_A [(a, .inl (cA, (L.length, .inl (atL L))))] sz)) 21000 1125000 (va_A [(a, .inl (cA, (L.length, .inl (atL L))))] sz) := by
  refine g_ofQ (cc := cX2_plain) (maxL := 4) (ret := (some (.array .int))) (by decide) rfl (Nat.le_of_ble_eq_true rfl) (fun p e s m below meth c ls hx hb hr hml hts hown hlocks hP hK hl hin A hA hD hS hXX => ?_)
  have hl : lv_has ls 4 [(0, .ref a)] := hl
  have hW := hL
  have hlt := hl1
  have hm : mpK 0 L = plain L := mpK_zero
  refine lv_aload_n hx hb dX2_plain_0 rfl (lv_at hl 0 rfl) ?_
  refine lv_astore_n (lv' := [(1, .ref a), (0, .ref a)]) hx hb dX2_plain_1 rfl hl (by decide) rfl (fun ls hl => ?_)
  refine lv_iconst (v := 0) hx hb dX2_plain_2 (by decide) ?_
  refine lv_istore_n (lv' := [(2, .int 0), (1, .ref a), (0, .ref a)]) hx hb dX2_plain_3 rfl hl (by decide) rfl (fun ls hl => ?_)
  have lp4 : ∀ (d : Nat) (k : Nat) (Lt : List Int32) (q : Nat) (hk9 : k ≤ 101) (hW : okW Lt) (hlt : Lt.length ≤ 100) (hm : mpK k Lt = plain L), 101 - k < d → ∀ (cells slots : Nat), cells ≤ k * 202 → slots ≤ k * 10800 → ∀ (H : Heap) (locs : List Loc), va_P (dC, dI) vwCl [(a, .inl (cA, (L.length, .inl (atL L)))), (q, .inl (cA, (Lt.length, .inl (atL Lt))))] H → va_D A [(a, .inl (cA, (L.length, .inl (atL L)))), (q, .inl (cA, (Lt.length, .inl (atL Lt))))] → va_S A s.heap H locs → ∀ ls : Array Slot, lv_has ls 4 [(2, .int (nI k)), (1, .ref q), (0, .ref a)] → W p l e mt_X2_plainN_rm s m ([.ref a] : List Value).toArray below meth c H locs cells slots (MQ below (gQ (dC, dI) (fun u : Unit => some .null) (fun u : Unit => True) (fun u : Unit => [(a, .inl (cA, (L.length, .inl (atL L))))]) A) ([.ref a] : List Value).toArray s 21000 1125000 A) (F0 m 4 ls []) := by
    intro d
    induction d with
    | zero => intro k Lt q hk9 hW hlt hm hd; exact absurd hd (Nat.not_lt_zero _)
    | succ d ih4 =>
      intro k Lt q hk9 hW hlt hm hd cells slots hcz hsz H locs hP hD hS ls hl
      refine lv_iload_n hx hb dX2_plain_4 rfl (lv_at hl 0 rfl) ?_
      refine lv_bipush (v := 100) hx hb dX2_plain_5 (by decide) ?_
      refine lv_icmp_gt (tgt := 52) hx hb dX2_plain_7 (by decide) (fun c7 => ?_) (fun c7 => ?_)
      · have c7 : 100 < k := g_gtT k 100 (by omega) (by omega) c7
        refine lv_null hx hb dX2_plain_52 ?_
        have hP := g_subP hP [0] (wc := [(a, .inl (cA, (L.length, .inl (atL L))))]) rfl
        have hD := hD.sub (ws' := [(a, .inl (cA, (L.length, .inl (atL L))))]) [0] (by decide) rfl
        have hP : va_P (dC, dI) vwCl [(a, .inl (cA, (L.length, .inl (atL L))))] H := hP
        have hD : va_D A [(a, .inl (cA, (L.length, .inl (atL L))))] := hD
        exact g_endQa hx hb hr (Or.inr ⟨_, rfl⟩) (Or.inl rfl) hlocks hP hD hS dX2_plain_53 () rfl rfl trivial (by omega) (by omega)
      · have c7 : k ≤ 100 := g_gtF k 100 (by omega) (by omega) c7
        rcases hE : enF Lt 0 with _ | e9
        · exact absurd ((mpK_end hE (by omega)).symm.trans (hm.trans hz)) (fun q => nomatch q)
        · obtain ⟨-, he2, ⟨b9, hbg⟩, -⟩ := enF_spec hE
          have hcl := cut_le (bg_lt hbg) he2 hlt
          obtain ⟨hWc, -⟩ := cut_eq sm_rep hW he2 hbg
          refine lv_aload_n hx hb dX2_plain_10 rfl (lv_at hl 1 rfl) ?_
          refine g_QS xT_st (As := [.ref q]) (rest := []) (wr := [(a, .inl (cA, (L.length, .inl (atL L))))]) ⟨hx, hb, hml, hown, hts⟩ (mt_X2_handleS l dC dI cA H.size q Lt b9 e9 hW (by first | omega | (simp only [List.length_append, List.length_cons, List.length_nil, List.length_set, turnL_len]; omega)) hE hbg) (va_cwS 1 hts gX2_plain_X2_handle rfl rfl rfl hdX2_handle ⟨Nat.le_of_ble_eq_true rfl, Nat.le_of_ble_eq_true rfl⟩) hP hK hD hS hA trivial [1] (by decide) rfl [0] rfl (by decide) (by decide) rfl hl.1 rfl (Nat.le_of_ble_eq_true rfl) dX2_plain_11 (by show _ ≤ 21000; omega) (by show _ ≤ 1125000; omega) (fun u H locs hw_2 hP hD hS => ?_)
          obtain ⟨q_1, rfl⟩ : ∃ z, z = u := ⟨_, rfl⟩
          have hw_2 : True := hw_2
          have hP : va_P (dC, dI) vwCl [(a, .inl (cA, (L.length, .inl (atL L)))), (q, .inl (cA, (Lt.length, .inl (atL Lt)))), (q_1, .inl (cA, ([nI b9, nI e9].length, .inl (atL [nI b9, nI e9]))))] H := hP
          have hD : va_D A [(a, .inl (cA, (L.length, .inl (atL L)))), (q, .inl (cA, (Lt.length, .inl (atL Lt)))), (q_1, .inl (cA, ([nI b9, nI e9].length, .inl (atL [nI b9, nI e9]))))] := hD
          refine W.eq (g2 := F0 m 14 ls [.ref q_1]) rfl ?_
          refine lv_astore_n (lv' := [(3, .ref q_1), (2, .int (nI k)), (1, .ref q), (0, .ref a)]) hx hb dX2_plain_14 rfl hl (by decide) rfl (fun ls hl => ?_)
          refine lv_aload_n hx hb dX2_plain_15 rfl (lv_at hl 0 rfl) ?_
          refine lv_ifnonnull (tgt := 31) hx hb dX2_plain_16 (by decide) ?_
          refine lv_aload_n hx hb dX2_plain_31 rfl (lv_at hl 2 rfl) ?_
          refine lv_aload_n hx hb dX2_plain_32 rfl (lv_at hl 0 rfl) ?_
          refine g_QS xT_st (As := [.ref q, .ref q_1]) (rest := []) (wr := [(a, .inl (cA, (L.length, .inl (atL L))))]) ⟨hx, hb, hml, hown, hts⟩ (mt_X2_cut l dC dI cA H.size q q_1 Lt b9 e9 hW hlt he2 hbg) (va_cwS 2 hts gX2_plain_X2_cut rfl rfl rfl hdX2_cut ⟨Nat.le_of_ble_eq_true rfl, Nat.le_of_ble_eq_true rfl⟩) hP hK hD hS hA trivial [1, 2] (by decide) rfl [0] rfl (by decide) (by decide) rfl hl.1 rfl (Nat.le_of_ble_eq_true rfl) dX2_plain_33 (by show _ ≤ 21000; omega) (by show _ ≤ 1125000; omega) (fun u H locs hw_4 hP hD hS => ?_)
          obtain ⟨q_3, rfl⟩ : ∃ z, z = u := ⟨_, rfl⟩
          have hw_4 : True := hw_4
          have hP : va_P (dC, dI) vwCl [(a, .inl (cA, (L.length, .inl (atL L)))), (q, .inl (cA, (Lt.length, .inl (atL Lt)))), (q_1, .inl (cA, ([nI b9, nI e9].length, .inl (atL [nI b9, nI e9])))), (q_3, .inl (cA, ((cutL Lt b9 e9).length, .inl (atL (cutL Lt b9 e9)))))] H := hP
          have hD : va_D A [(a, .inl (cA, (L.length, .inl (atL L)))), (q, .inl (cA, (Lt.length, .inl (atL Lt)))), (q_1, .inl (cA, ([nI b9, nI e9].length, .inl (atL [nI b9, nI e9])))), (q_3, .inl (cA, ((cutL Lt b9 e9).length, .inl (atL (cutL Lt b9 e9)))))] := hD
          refine W.eq (g2 := F0 m 36 ls [.ref q_3]) rfl ?_
          refine lv_astore_n (lv' := [(1, .ref q_3), (3, .ref q_1), (2, .int (nI k)), (0, .ref a)]) hx hb dX2_plain_36 rfl hl (by decide) rfl (fun ls hl => ?_)
          refine lv_aload_n hx hb dX2_plain_37 rfl (lv_at hl 0 rfl) ?_
          refine va_alen (v := nI ((cutL Lt b9 e9).length)) hx hb hK hP 3 0 rfl rfl rfl dX2_plain_38 ?_
          refine lv_bipush (v := 100) hx hb dX2_plain_39 (by decide) ?_
          refine lv_icmp_le (tgt := 46) hx hb dX2_plain_41 (by decide) (fun c41 => ?_) (fun c41 => ?_)
          · have c41 : ((cutL Lt b9 e9).length) ≤ 100 := g_leT ((cutL Lt b9 e9).length) 100 (by omega) (by omega) c41
            refine lv_iinc (v := nI (k + 1)) (lv' := [(2, .int (nI (k + 1))), (1, .ref q_3), (3, .ref q_1), (0, .ref a)]) hx hb dX2_plain_46 hl (k := 2) rfl (g_inc _) (by decide) rfl (fun ls hl => ?_)
            refine lv_goto (tgt := 4) hx hb dX2_plain_49 (by decide) ?_
            have hP := g_subP hP [0, 3] (wc := [(a, .inl (cA, (L.length, .inl (atL L)))), (q_3, .inl (cA, ((cutL Lt b9 e9).length, .inl (atL (cutL Lt b9 e9)))))]) rfl
            have hD := hD.sub (ws' := [(a, .inl (cA, (L.length, .inl (atL L)))), (q_3, .inl (cA, ((cutL Lt b9 e9).length, .inl (atL (cutL Lt b9 e9)))))]) [0, 3] (by decide) rfl
            have hP : va_P (dC, dI) vwCl [(a, .inl (cA, (L.length, .inl (atL L)))), (q_3, .inl (cA, ((cutL Lt b9 e9).length, .inl (atL (cutL Lt b9 e9)))))] H := hP
            have hD : va_D A [(a, .inl (cA, (L.length, .inl (atL L)))), (q_3, .inl (cA, ((cutL Lt b9 e9).length, .inl (atL (cutL Lt b9 e9)))))] := hD
            exact ih4 (k + 1) (cutL Lt b9 e9) q_3 (by omega) hWc c41 ((mpK_cut hE hbg c41 (by omega)).symm.trans hm) (by omega) _ _ (by omega) (by omega) _ _ hP hD hS _ (lv_sub hl [0, 1, 3] rfl)
          · have c41 : 100 < ((cutL Lt b9 e9).length) := g_leF ((cutL Lt b9 e9).length) 100 (by omega) (by omega) c41
            refine lv_null hx hb dX2_plain_44 ?_
            have hP := g_subP hP [0] (wc := [(a, .inl (cA, (L.length, .inl (atL L))))]) rfl
            have hD := hD.sub (ws' := [(a, .inl (cA, (L.length, .inl (atL L))))]) [0] (by decide) rfl
            have hP : va_P (dC, dI) vwCl [(a, .inl (cA, (L.length, .inl (atL L))))] H := hP
            have hD : va_D A [(a, .inl (cA, (L.length, .inl (atL L))))] := hD
            exact g_endQa hx hb hr (Or.inr ⟨_, rfl⟩) (Or.inl rfl) hlocks hP hD hS dX2_plain_45 () rfl rfl trivial (by omega) (by omega)
  refine lv_iload_n hx hb dX2_plain_4 rfl (lv_at hl 0 rfl) ?_
  refine lv_bipush (v := 100) hx hb dX2_plain_5 (by decide) ?_
  refine lv_icmp_gt (tgt := 52) hx hb dX2_plain_7 (by decide) (fun c7 => ?_) (fun c7 => ?_)
  · exact absurd c7 (by decide)
  · have c7 : 0 ≤ 100 := g_gtF 0 100 (by omega) (by omega) c7
    rcases hE : enF L 0 with _ | e9
    · exact absurd ((mpK_end hE (by omega)).symm.trans (hm.trans hz)) (fun q => nomatch q)
    · obtain ⟨-, he2, ⟨b9, hbg⟩, -⟩ := enF_spec hE
      have hcl := cut_le (bg_lt hbg) he2 hlt
      obtain ⟨hWc, -⟩ := cut_eq sm_rep hW he2 hbg
      refine lv_aload_n hx hb dX2_plain_10 rfl (lv_at hl 1 rfl) ?_
      refine g_QS xT_st (As := [.ref a]) (rest := []) (wr := []) ⟨hx, hb, hml, hown, hts⟩ (mt_X2_handleS l dC dI cA s.heap.size a L b9 e9 hW (by first | omega | (simp only [List.length_append, List.length_cons, List.length_nil, List.length_set, turnL_len]; omega)) hE hbg) (va_cwS 1 hts gX2_plain_X2_handle rfl rfl rfl hdX2_handle ⟨Nat.le_of_ble_eq_true rfl, Nat.le_of_ble_eq_true rfl⟩) hP hK hD hS hA trivial [0] (by decide) rfl [] rfl (by decide) (by decide) rfl hl.1 rfl (Nat.le_of_ble_eq_true rfl) dX2_plain_11 (by show _ ≤ 21000; omega) (by show _ ≤ 1125000; omega) (fun u H locs hw_6 hP hD hS => ?_)
      obtain ⟨q_5, rfl⟩ : ∃ z, z = u := ⟨_, rfl⟩
      have hw_6 : True := hw_6
      have hP : va_P (dC, dI) vwCl [(a, .inl (cA, (L.length, .inl (atL L)))), (q_5, .inl (cA, ([nI b9, nI e9].length, .inl (atL [nI b9, nI e9]))))] H := hP
      have hD : va_D A [(a, .inl (cA, (L.length, .inl (atL L)))), (q_5, .inl (cA, ([nI b9, nI e9].length, .inl (atL [nI b9, nI e9]))))] := hD
      refine W.eq (g2 := F0 m 14 ls [.ref q_5]) rfl ?_
      refine lv_astore_n (lv' := [(3, .ref q_5), (2, .int 0), (1, .ref a), (0, .ref a)]) hx hb dX2_plain_14 rfl hl (by decide) rfl (fun ls hl => ?_)
      refine lv_aload_n hx hb dX2_plain_15 rfl (lv_at hl 0 rfl) ?_
      refine lv_ifnonnull (tgt := 31) hx hb dX2_plain_16 (by decide) ?_
      refine lv_aload_n hx hb dX2_plain_31 rfl (lv_at hl 2 rfl) ?_
      refine lv_aload_n hx hb dX2_plain_32 rfl (lv_at hl 0 rfl) ?_
      refine g_QS xT_st (As := [.ref a, .ref q_5]) (rest := []) (wr := []) ⟨hx, hb, hml, hown, hts⟩ (mt_X2_cut l dC dI cA H.size a q_5 L b9 e9 hW hlt he2 hbg) (va_cwS 2 hts gX2_plain_X2_cut rfl rfl rfl hdX2_cut ⟨Nat.le_of_ble_eq_true rfl, Nat.le_of_ble_eq_true rfl⟩) hP hK hD hS hA trivial [0, 1] (by decide) rfl [] rfl (by decide) (by decide) rfl hl.1 rfl (Nat.le_of_ble_eq_true rfl) dX2_plain_33 (by show _ ≤ 21000; omega) (by show _ ≤ 1125000; omega) (fun u H locs hw_8 hP hD hS => ?_)
      obtain ⟨q_7, rfl⟩ : ∃ z, z = u := ⟨_, rfl⟩
      have hw_8 : True := hw_8
      have hP : va_P (dC, dI) vwCl [(a, .inl (cA, (L.length, .inl (atL L)))), (q_5, .inl (cA, ([nI b9, nI e9].length, .inl (atL [nI b9, nI e9])))), (q_7, .inl (cA, ((cutL L b9 e9).length, .inl (atL (cutL L b9 e9)))))] H := hP
      have hD : va_D A [(a, .inl (cA, (L.length, .inl (atL L)))), (q_5, .inl (cA, ([nI b9, nI e9].length, .inl (atL [nI b9, nI e9])))), (q_7, .inl (cA, ((cutL L b9 e9).length, .inl (atL (cutL L b9 e9)))))] := hD
      refine W.eq (g2 := F0 m 36 ls [.ref q_7]) rfl ?_
      refine lv_astore_n (lv' := [(1, .ref q_7), (3, .ref q_5), (2, .int 0), (0, .ref a)]) hx hb dX2_plain_36 rfl hl (by decide) rfl (fun ls hl => ?_)
      refine lv_aload_n hx hb dX2_plain_37 rfl (lv_at hl 0 rfl) ?_
      refine va_alen (v := nI ((cutL L b9 e9).length)) hx hb hK hP 2 0 rfl rfl rfl dX2_plain_38 ?_
      refine lv_bipush (v := 100) hx hb dX2_plain_39 (by decide) ?_
      refine lv_icmp_le (tgt := 46) hx hb dX2_plain_41 (by decide) (fun c41 => ?_) (fun c41 => ?_)
      · have c41 : ((cutL L b9 e9).length) ≤ 100 := g_leT ((cutL L b9 e9).length) 100 (by omega) (by omega) c41
        refine lv_iinc (v := 1) (lv' := [(2, .int 1), (1, .ref q_7), (3, .ref q_5), (0, .ref a)]) hx hb dX2_plain_46 hl (k := 2) rfl (by decide) (by decide) rfl (fun ls hl => ?_)
        refine lv_goto (tgt := 4) hx hb dX2_plain_49 (by decide) ?_
        have hP := g_subP hP [0, 2] (wc := [(a, .inl (cA, (L.length, .inl (atL L)))), (q_7, .inl (cA, ((cutL L b9 e9).length, .inl (atL (cutL L b9 e9)))))]) rfl
        have hD := hD.sub (ws' := [(a, .inl (cA, (L.length, .inl (atL L)))), (q_7, .inl (cA, ((cutL L b9 e9).length, .inl (atL (cutL L b9 e9)))))]) [0, 2] (by decide) rfl
        have hP : va_P (dC, dI) vwCl [(a, .inl (cA, (L.length, .inl (atL L)))), (q_7, .inl (cA, ((cutL L b9 e9).length, .inl (atL (cutL L b9 e9)))))] H := hP
        have hD : va_D A [(a, .inl (cA, (L.length, .inl (atL L)))), (q_7, .inl (cA, ((cutL L b9 e9).length, .inl (atL (cutL L b9 e9)))))] := hD
        exact lp4 ((101 - 1) + 1) 1 (cutL L b9 e9) q_7 (by omega) hWc c41 ((mpK_cut hE hbg c41 (by omega)).symm.trans hm) (Nat.lt_succ_self _) _ _ (by omega) (by omega) _ _ hP hD hS _ (lv_sub hl [0, 1, 3] rfl)
      · have c41 : 100 < ((cutL L b9 e9).length) := g_leF ((cutL L b9 e9).length) 100 (by omega) (by omega) c41
        refine lv_null hx hb dX2_plain_44 ?_
        have hP := g_subP hP [0] (wc := [(a, .inl (cA, (L.length, .inl (atL L))))]) rfl
        have hD := hD.sub (ws' := [(a, .inl (cA, (L.length, .inl (atL L))))]) [0] (by decide) rfl
        have hP : va_P (dC, dI) vwCl [(a, .inl (cA, (L.length, .inl (atL L))))] H := hP
        have hD : va_D A [(a, .inl (cA, (L.length, .inl (atL L))))] := hD
        exact g_endQa hx hb hr (Or.inr ⟨_, rfl⟩) (Or.inl rfl) hlocks hP hD hS dX2_plain_45 () rfl rfl trivial (by omega) (by omega)
