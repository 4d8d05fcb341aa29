/-! 58: what is told by hand -/
set_option maxRecDepth 20000 in
theorem in_X2_ends_2 : ∀ w ∈ wsX20, w ∈ wsX2_ends := by decide +kernel
abbrev mt_X2_toldN_rm : Room := { frames := 0, cells := 0, slots := 0, locals := 0 }
set_option maxHeartbeats 4000000 in
set_option maxRecDepth 100000 in
/-- Sim.told of nothing -/
theorem mt_X2_toldN (l : Launch) (dC : Nat → ClassId) (dI : Nat → Nat → Nat) (cA : ClassId) (sz : Nat) (q : Nat) : Met l yX2_told wsX2_told mt_X2_toldN_rm (va_Pc [.null, .int (nI q)] (gB (dC, dI) [(cA, .int)] [] sz)) (gR (some (.int (-9)))) 0 0 (fun _ => False) := by
  refine g_ofR (cc := cX2_told) (maxL := 7) (ret := (some .int)) (by decide) rfl (Nat.le_of_ble_eq_true rfl) (fun p e s m below meth c ls hx hb hr hml hts hown hlocks hP hK hl hD => ?_)
  have hS : va_S (fun _ => True) s.heap s.heap [] := va_S.rf
  have hl : lv_has ls 7 [(0, .null), (1, .int (nI q))] := hl
  refine lv_aload_nN hx hb dX2_told_0 rfl (lv_at hl 0 rfl) ?_
  refine lv_ifnonnullN hx hb dX2_told_1 ?_
  refine lv_bipush (v := (-9)) hx hb dX2_told_4 (by decide) ?_
  exact g_endRi hx hb hr hlocks dX2_told_6 rfl

abbrev mt_X2_toldS_rm : Room := { frames := 1, cells := 0, slots := 0, locals := 21 }
set_option maxHeartbeats 4000000 in
set_option maxRecDepth 100000 in
/-- Sim.told of a plain form -/
theorem mt_X2_toldS (l : Launch) (dC : Nat → ClassId) (dI : Nat → Nat → Nat) (cA : ClassId) (sz : Nat) (p9 : Nat) (P : List Int32) (c9 : Nat) (q : Nat) (hP9 : okW P) (hn : enF P 0 = none) (hlp : P.length ≤ 100) (hq : q < 4) : Met l yX2_told wsX2_told mt_X2_toldS_rm (va_Pc [.ref p9, .int (nI q)] (gB (dC, dI) [(cA, .int)] [(p9, .inl (cA, ((P ++ [nI c9]).length, .inl (atL (P ++ [nI c9])))))] sz)) (gR (some (.int (paI (some (c9, P)) q)))) 0 0 (fun _ => False) := by
  refine g_ofR (cc := cX2_told) (maxL := 7) (ret := (some .int)) (by decide) rfl (Nat.le_of_ble_eq_true rfl) (fun p e s m below meth c ls hx hb hr hml hts hown hlocks hP hK hl hD => ?_)
  have hS : va_S (fun _ => True) s.heap s.heap [] := va_S.rf
  have hl : lv_has ls 7 [(0, .ref p9), (1, .int (nI q))] := hl
  have hl9 : (P ++ [nI c9]).length = P.length + 1 := len_snoc
  refine lv_aload_n hx hb dX2_told_0 rfl (lv_at hl 0 rfl) ?_
  refine lv_ifnonnull (tgt := 7) hx hb dX2_told_1 (by decide) ?_
  refine lv_aload_n hx hb dX2_told_7 rfl (lv_at hl 0 rfl) ?_
  refine va_alen (v := nI ((P ++ [nI c9]).length)) hx hb hK hP 0 0 rfl rfl rfl dX2_told_8 ?_
  refine lv_iconst (v := 1) hx hb dX2_told_9 (by decide) ?_
  refine lv_isub hx hb dX2_told_10 ?_
  rw [show nI (P ++ [nI c9]).length - 1 = nI P.length from by rw [hl9]; exact nI_pred _]
  refine lv_istore_n (lv' := [(2, .int (nI P.length)), (0, .ref p9), (1, .int (nI q))]) hx hb dX2_told_11 rfl hl (by decide) rfl (fun ls hl => ?_)
  refine lv_iload_n hx hb dX2_told_12 rfl (lv_at hl 2 rfl) ?_
  refine lv_iconst (v := 2) hx hb dX2_told_13 (by decide) ?_
  refine lv_icmp_ge (tgt := 29) hx hb dX2_told_14 (by decide) (fun c14 => ?_) (fun c14 => ?_)
  · have c14 : 2 ≤ q := g_geT q 2 (by omega) (by omega) c14
    refine lv_iconst (v := 0) hx hb dX2_told_29 (by decide) ?_
    refine lv_istore_n (lv' := [(3, .int 0), (2, .int (nI P.length)), (0, .ref p9), (1, .int (nI q))]) hx hb dX2_told_30 rfl hl (by decide) rfl (fun ls hl => ?_)
    refine lv_iconst (v := 0) hx hb dX2_told_31 (by decide) ?_
    refine lv_istore (lv' := [(4, .int 0), (3, .int 0), (2, .int (nI P.length)), (0, .ref p9), (1, .int (nI q))]) hx hb dX2_told_32 hl (by decide) rfl (fun ls hl => ?_)
    refine lv_bipush (v := 6) hx hb dX2_told_34 (by decide) ?_
    refine lv_istore (lv' := [(5, .int 6), (4, .int 0), (3, .int 0), (2, .int (nI P.length)), (0, .ref p9), (1, .int (nI q))]) hx hb dX2_told_36 hl (by decide) rfl (fun ls hl => ?_)
    have lp38 : ∀ (d : Nat) (g : Nat) (le : Int32) (sg : Int32) (hg : g ≤ 6) (ht : toR P g le sg), g < d → ∀ ls : Array Slot, lv_has ls 7 [(5, .int (nI g)), (4, .int sg), (3, .int le), (2, .int (nI P.length)), (0, .ref p9), (1, .int (nI q))] → W p l e mt_X2_toldS_rm s m ([.ref p9, .int (nI q)] : List Value).toArray below meth c s.heap [] 0 0 (MQ below (gR (some (.int (paI (some (c9, P)) q)))) ([.ref p9, .int (nI q)] : List Value).toArray s 0 0 (fun _ => False)) (F0 m 38 ls []) := by
      intro d
      induction d with
      | zero => intro g le sg hg ht hd; exact absurd hd (Nat.not_lt_zero _)
      | succ d ih38 =>
        intro g le sg hg ht hd ls hl
        refine lv_iload hx hb dX2_told_38 (lv_at hl 0 rfl) ?_
        refine lv_if_le (tgt := 96) hx hb dX2_told_40 (by decide) (fun c40 => ?_) (fun c40 => ?_)
        · have c40 : g ≤ 0 := g_leT g 0 (by omega) (by omega) c40
          refine lv_iload_n hx hb dX2_told_96 rfl (lv_at hl 5 rfl) ?_
          refine lv_iconst (v := 2) hx hb dX2_told_97 (by decide) ?_
          refine lv_icmp_ne (tgt := 106) hx hb dX2_told_98 (by decide) (fun c98 => ?_) (fun c98 => ?_)
          · have c98 : ¬ q = 2 := g_neT q 2 (by omega) (by omega) c98
            refine lv_iload_n hx hb dX2_told_106 rfl (lv_at hl 2 rfl) ?_
            have hg0 : g = 0 := by omega
            rw [hg0] at ht
            obtain ⟨f1, f2⟩ := to_fin hP9 hn ht
            exact g_endRi hx hb hr hlocks dX2_told_107 (show le = paI (some (c9, P)) q from by rw [show q = 3 by omega, f1]; rfl)
          · have c98 : q = 2 := g_neF q 2 (by omega) (by omega) c98
            refine lv_iload hx hb dX2_told_101 (lv_at hl 1 rfl) ?_
            refine lv_goto (tgt := 107) hx hb dX2_told_103 (by decide) ?_
            have hg0 : g = 0 := by omega
            rw [hg0] at ht
            obtain ⟨f1, f2⟩ := to_fin hP9 hn ht
            exact g_endRi hx hb hr hlocks dX2_told_107 (show sg = paI (some (c9, P)) q from by rw [show q = 2 by omega, f2]; rfl)
        · have c40 : 0 < g := g_leF g 0 (by omega) (by omega) c40
          refine lv_iconst (v := 0) hx hb dX2_told_43 (by decide) ?_
          refine lv_istore (lv' := [(6, .int 0), (5, .int (nI g)), (4, .int sg), (3, .int le), (2, .int (nI P.length)), (0, .ref p9), (1, .int (nI q))]) hx hb dX2_told_44 hl (by decide) rfl (fun ls hl => ?_)
          have lp46 : ∀ (d : Nat) (k : Nat) (le : Int32) (sg : Int32) (hk9 : k ≤ P.length) (hti : toI P g k le sg), P.length - k < d → ∀ ls : Array Slot, lv_has ls 7 [(6, .int (nI k)), (5, .int (nI g)), (4, .int sg), (3, .int le), (2, .int (nI P.length)), (0, .ref p9), (1, .int (nI q))] → W p l e mt_X2_toldS_rm s m ([.ref p9, .int (nI q)] : List Value).toArray below meth c s.heap [] 0 0 (MQ below (gR (some (.int (paI (some (c9, P)) q)))) ([.ref p9, .int (nI q)] : List Value).toArray s 0 0 (fun _ => False)) (F0 m 46 ls []) := by
            intro d
            induction d with
            | zero => intro k le sg hk9 hti hd; exact absurd hd (Nat.not_lt_zero _)
            | succ d ih46 =>
              intro k le sg hk9 hti hd ls hl
              refine lv_iload hx hb dX2_told_46 (lv_at hl 0 rfl) ?_
              refine lv_iload_n hx hb dX2_told_48 rfl (lv_at hl 4 rfl) ?_
              refine lv_icmp_ge (tgt := 90) hx hb dX2_told_49 (by decide) (fun c49 => ?_) (fun c49 => ?_)
              · have c49 : P.length ≤ k := g_geT k P.length (by omega) (by omega) c49
                refine lv_iinc (v := nI (g - 1)) (lv' := [(5, .int (nI (g - 1))), (6, .int (nI k)), (4, .int sg), (3, .int le), (2, .int (nI P.length)), (0, .ref p9), (1, .int (nI q))]) hx hb dX2_told_90 hl (k := 1) rfl (g_dec (by omega)) (by decide) rfl (fun ls hl => ?_)
                refine lv_goto (tgt := 38) hx hb dX2_told_93 (by decide) ?_
                exact ih38 (g - 1) le sg (by omega) (to_end hP9 hti (by omega) (by omega)) (by omega) _ (lv_sub hl [0, 2, 3, 4, 5, 6] rfl)
              · have c49 : k < P.length := g_geF k P.length (by omega) (by omega) c49
                refine lv_aload_n hx hb dX2_told_52 rfl (lv_at hl 5 rfl) ?_
                refine lv_iload hx hb dX2_told_53 (lv_at hl 0 rfl) ?_
                refine va_iald hx hb hK hP 0 0 rfl rfl (vp_in_nI (by omega) (by omega)) dX2_told_55 ?_
                rw [show (nI k).toNatClampNeg = k from nI_clamp (by omega)]
                rw [show atL (P ++ [nI c9]) k = atL P k from atL_appL c49]
                refine va_mabs hx hb (hml.trans hl.1.symm) hown (hts (.methodLink RX2 19 Lib.Math.abs.name) (List.mem_of_getElem? (i := 1) rfl)) (hts (.static Lib.Math.abs.name) (List.mem_of_getElem? (i := 2) rfl)) (hts (.initialized "java/lang/Math") (List.mem_of_getElem? (i := 3) rfl)) (hts (.code Lib.Math.abs.name Lib.Math.abs.code 1 (some .int)) (List.mem_of_getElem? (i := 4) rfl)) (Nat.le_of_ble_eq_true rfl) (Nat.le_of_ble_eq_true rfl) (Nat.zero_le _) (Nat.zero_le _) dX2_told_56 ?_
                rw [mabs_eq]
                have hxo := okW_at hP9 c49
                have hx5 := (okx_h _ hxo).2.1
                rw [(okx_h _ hxo).2.2.1]
                refine lv_iload hx hb dX2_told_59 (lv_at hl 1 rfl) ?_
                refine lv_icmp_eq (tgt := 67) hx hb dX2_told_61 (by decide) (fun c61 => ?_) (fun c61 => ?_)
                · have c61 : (hN (atL P k)) = g := g_eqT (hN (atL P k)) g (by omega) (by omega) c61
                  refine lv_iload hx hb dX2_told_67 (lv_at hl 1 rfl) ?_
                  refine lv_istore_n (lv' := [(3, .int (nI g)), (6, .int (nI k)), (5, .int (nI g)), (4, .int sg), (2, .int (nI P.length)), (0, .ref p9), (1, .int (nI q))]) hx hb dX2_told_69 rfl hl (by decide) rfl (fun ls hl => ?_)
                  refine lv_aload_n hx hb dX2_told_70 rfl (lv_at hl 5 rfl) ?_
                  refine lv_iload hx hb dX2_told_71 (lv_at hl 1 rfl) ?_
                  refine va_iald hx hb hK hP 0 0 rfl rfl (vp_in_nI (by omega) (by omega)) dX2_told_73 ?_
                  rw [show (nI k).toNatClampNeg = k from nI_clamp (by omega)]
                  rw [show atL (P ++ [nI c9]) k = atL P k from atL_appL c49]
                  refine lv_if_le (tgt := 81) hx hb dX2_told_74 (by decide) (fun c74 => ?_) (fun c74 => ?_)
                  · refine lv_iconst (v := (-1)) hx hb dX2_told_81 (by decide) ?_
                    refine lv_topi (fun tp_1 etp_1 => ?_)
                    obtain rfl : tp_1 = sgI (atL P k) := etp_1.trans (((okx_s _ hxo).1 c74).symm)
                    refine lv_istore (lv' := [(4, .int (sgI (atL P k))), (3, .int (nI g)), (6, .int (nI k)), (5, .int (nI g)), (2, .int (nI P.length)), (0, .ref p9), (1, .int (nI q))]) hx hb dX2_told_82 hl (by decide) rfl (fun ls hl => ?_)
                    refine lv_iinc (v := nI (k + 1)) (lv' := [(6, .int (nI (k + 1))), (4, .int (sgI (atL P k))), (3, .int (nI g)), (5, .int (nI g)), (2, .int (nI P.length)), (0, .ref p9), (1, .int (nI q))]) hx hb dX2_told_84 hl (k := 2) rfl (g_inc _) (by decide) rfl (fun ls hl => ?_)
                    refine lv_goto (tgt := 46) hx hb dX2_told_87 (by decide) ?_
                    exact ih46 (k + 1) (nI g) (sgI (atL P k)) (by omega) (to_hit c49 c61) (by omega) _ (lv_sub hl [0, 3, 1, 2, 4, 5, 6] rfl)
                  · refine lv_iconst (v := 1) hx hb dX2_told_77 (by decide) ?_
                    refine lv_goto (tgt := 82) hx hb dX2_told_78 (by decide) ?_
                    refine lv_topi (fun tp_2 etp_2 => ?_)
                    obtain rfl : tp_2 = sgI (atL P k) := etp_2.trans (((okx_s _ hxo).2 c74).symm)
                    refine lv_istore (lv' := [(4, .int (sgI (atL P k))), (3, .int (nI g)), (6, .int (nI k)), (5, .int (nI g)), (2, .int (nI P.length)), (0, .ref p9), (1, .int (nI q))]) hx hb dX2_told_82 hl (by decide) rfl (fun ls hl => ?_)
                    refine lv_iinc (v := nI (k + 1)) (lv' := [(6, .int (nI (k + 1))), (4, .int (sgI (atL P k))), (3, .int (nI g)), (5, .int (nI g)), (2, .int (nI P.length)), (0, .ref p9), (1, .int (nI q))]) hx hb dX2_told_84 hl (k := 2) rfl (g_inc _) (by decide) rfl (fun ls hl => ?_)
                    refine lv_goto (tgt := 46) hx hb dX2_told_87 (by decide) ?_
                    exact ih46 (k + 1) (nI g) (sgI (atL P k)) (by omega) (to_hit c49 c61) (by omega) _ (lv_sub hl [0, 3, 1, 2, 4, 5, 6] rfl)
                · have c61 : ¬ (hN (atL P k)) = g := g_eqF (hN (atL P k)) g (by omega) (by omega) c61
                  refine lv_goto (tgt := 84) hx hb dX2_told_64 (by decide) ?_
                  refine lv_iinc (v := nI (k + 1)) (lv' := [(6, .int (nI (k + 1))), (5, .int (nI g)), (4, .int sg), (3, .int le), (2, .int (nI P.length)), (0, .ref p9), (1, .int (nI q))]) hx hb dX2_told_84 hl (k := 0) rfl (g_inc _) (by decide) rfl (fun ls hl => ?_)
                  refine lv_goto (tgt := 46) hx hb dX2_told_87 (by decide) ?_
                  exact ih46 (k + 1) le sg (by omega) (to_skip hti c61) (by omega) _ (lv_sub hl [0, 1, 2, 3, 4, 5, 6] rfl)
          exact lp46 ((P.length - 0) + 1) 0 le sg (Nat.zero_le _) (to_0 ht) (Nat.lt_succ_self _) _ (lv_sub hl [0, 1, 2, 3, 4, 5, 6] rfl)
    exact lp38 ((6) + 1) 6 0 0 (by omega) (to_6 hP9) (Nat.lt_succ_self _) _ (lv_sub hl [0, 1, 2, 3, 4, 5] rfl)
  · have c14 : q < 2 := g_geF q 2 (by omega) (by omega) c14
    refine lv_iload_n hx hb dX2_told_17 rfl (lv_at hl 2 rfl) ?_
    refine lv_if_ne (tgt := 25) hx hb dX2_told_18 (by decide) (fun c18 => ?_) (fun c18 => ?_)
    · have c18 : ¬ q = 0 := g_neT q 0 (by omega) (by omega) c18
      refine lv_aload_n hx hb dX2_told_25 rfl (lv_at hl 1 rfl) ?_
      refine lv_iload_n hx hb dX2_told_26 rfl (lv_at hl 0 rfl) ?_
      refine va_iald hx hb hK hP 0 0 rfl rfl (vp_in_nI (by omega) (by omega)) dX2_told_27 ?_
      rw [show (nI P.length).toNatClampNeg = P.length from nI_clamp (by omega)]
      rw [show atL (P ++ [nI c9]) P.length = nI c9 from atL_snoc]
      exact g_endRi hx hb hr hlocks dX2_told_28 (show nI c9 = paI (some (c9, P)) q from by rw [show q = 1 by omega]; rfl)
    · have c18 : q = 0 := g_neF q 0 (by omega) (by omega) c18
      refine lv_iload_n hx hb dX2_told_21 rfl (lv_at hl 0 rfl) ?_
      refine lv_goto (tgt := 28) hx hb dX2_told_22 (by decide) ?_
      exact g_endRi hx hb hr hlocks dX2_told_28 (show nI P.length = paI (some (c9, P)) q from by rw [show q = 0 by omega]; rfl)

abbrev mt_X2_signs_rm : Room := { frames := 0, cells := 0, slots := 0, locals := 0 }
set_option maxHeartbeats 4000000 in
set_option maxRecDepth 100000 in
/-- Sim.signs -/
theorem mt_X2_signs (l : Launch) (dC : Nat → ClassId) (dI : Nat → Nat → Nat) (cA : ClassId) (sz : Nat) (a : Nat) (L : List Int32) (hL : okW L) (hl1 : L.length ≤ 1000) : Met l yX2_signs wsX2_signs mt_X2_signs_rm (va_Pc [.ref a] (gB (dC, dI) [(cA, .int)] [(a, .inl (cA, (L.length, .inl (atL L))))] sz)) (gR (some (.int (accL L sgI L.length)))) 0 0 (fun _ => False) := by
  refine g_ofR (cc := cX2_signs) (maxL := 6) (ret := (some .int)) (by decide) rfl (Nat.le_of_ble_eq_true rfl) (fun p e s m below meth c ls hx hb hr hml hts hown hlocks hP hK hl hD => ?_)
  have hS : va_S (fun _ => True) s.heap s.heap [] := va_S.rf
  have hl : lv_has ls 6 [(0, .ref a)] := hl
  refine lv_iconst (v := 0) hx hb dX2_signs_0 (by decide) ?_
  refine lv_istore_n (lv' := [(1, .int 0), (0, .ref a)]) hx hb dX2_signs_1 rfl hl (by decide) rfl (fun ls hl => ?_)
  refine lv_aload_n hx hb dX2_signs_2 rfl (lv_at hl 1 rfl) ?_
  refine lv_astore_n (lv' := [(2, .ref a), (1, .int 0), (0, .ref a)]) hx hb dX2_signs_3 rfl hl (by decide) rfl (fun ls hl => ?_)
  refine lv_aload_n hx hb dX2_signs_4 rfl (lv_at hl 0 rfl) ?_
  refine va_alen (v := nI L.length) hx hb hK hP 0 0 rfl rfl rfl dX2_signs_5 ?_
  refine lv_istore_n (lv' := [(3, .int (nI L.length)), (2, .ref a), (1, .int 0), (0, .ref a)]) hx hb dX2_signs_6 rfl hl (by decide) rfl (fun ls hl => ?_)
  refine lv_iconst (v := 0) hx hb dX2_signs_7 (by decide) ?_
  refine lv_istore (lv' := [(4, .int 0), (3, .int (nI L.length)), (2, .ref a), (1, .int 0), (0, .ref a)]) hx hb dX2_signs_8 hl (by decide) rfl (fun ls hl => ?_)
  have lp10 : ∀ (d : Nat) (k : Nat) (hk9 : k ≤ L.length), L.length - k < d → ∀ ls : Array Slot, lv_has ls 6 [(4, .int (nI k)), (3, .int (nI L.length)), (2, .ref a), (1, .int (accL L sgI k)), (0, .ref a)] → W p l e mt_X2_signs_rm s m ([.ref a] : List Value).toArray below meth c s.heap [] 0 0 (MQ below (gR (some (.int (accL L sgI L.length)))) ([.ref a] : List Value).toArray s 0 0 (fun _ => False)) (F0 m 10 ls []) := by
    intro d
    induction d with
    | zero => intro k hk9 hd; exact absurd hd (Nat.not_lt_zero _)
    | succ d ih10 =>
      intro k hk9 hd ls hl
      refine lv_iload hx hb dX2_signs_10 (lv_at hl 0 rfl) ?_
      refine lv_iload_n hx hb dX2_signs_12 rfl (lv_at hl 1 rfl) ?_
      refine lv_icmp_ge (tgt := 41) hx hb dX2_signs_13 (by decide) (fun c13 => ?_) (fun c13 => ?_)
      · have c13 : L.length ≤ k := g_geT k L.length (by omega) (by omega) c13
        refine lv_iload_n hx hb dX2_signs_41 rfl (lv_at hl 3 rfl) ?_
        exact g_endRi hx hb hr hlocks dX2_signs_42 (by rw [show k = L.length by omega])
      · have c13 : k < L.length := g_geF k L.length (by omega) (by omega) c13
        refine lv_aload_n hx hb dX2_signs_16 rfl (lv_at hl 2 rfl) ?_
        refine lv_iload hx hb dX2_signs_17 (lv_at hl 0 rfl) ?_
        refine va_iald hx hb hK hP 0 0 rfl rfl (vp_in_nI (by omega) (by omega)) dX2_signs_19 ?_
        rw [show (nI k).toNatClampNeg = k from nI_clamp (by omega)]
        refine lv_istore (lv' := [(5, .int (atL L k)), (4, .int (nI k)), (3, .int (nI L.length)), (2, .ref a), (1, .int (accL L sgI k)), (0, .ref a)]) hx hb dX2_signs_20 hl (by decide) rfl (fun ls hl => ?_)
        refine lv_iload_n hx hb dX2_signs_22 rfl (lv_at hl 4 rfl) ?_
        refine lv_iload hx hb dX2_signs_23 (lv_at hl 0 rfl) ?_
        refine lv_if_le (tgt := 32) hx hb dX2_signs_25 (by decide) (fun c25 => ?_) (fun c25 => ?_)
        · refine lv_iconst (v := (-1)) hx hb dX2_signs_32 (by decide) ?_
          refine lv_iadd hx hb dX2_signs_33 ?_
          refine lv_topi (fun tp_1 etp_1 => ?_)
          obtain rfl : tp_1 = accL L sgI (k + 1) := etp_1.trans (show accL L sgI k + (-1) = accL L sgI k + sgI (atL L k) from by rw [(okx_s _ (okW_at hL c13)).1 c25])
          refine lv_istore_n (lv' := [(1, .int (accL L sgI (k + 1))), (5, .int (atL L k)), (4, .int (nI k)), (3, .int (nI L.length)), (2, .ref a), (0, .ref a)]) hx hb dX2_signs_34 rfl hl (by decide) rfl (fun ls hl => ?_)
          refine lv_iinc (v := nI (k + 1)) (lv' := [(4, .int (nI (k + 1))), (1, .int (accL L sgI (k + 1))), (5, .int (atL L k)), (3, .int (nI L.length)), (2, .ref a), (0, .ref a)]) hx hb dX2_signs_35 hl (k := 2) rfl (g_inc _) (by decide) rfl (fun ls hl => ?_)
          refine lv_goto (tgt := 10) hx hb dX2_signs_38 (by decide) ?_
          exact ih10 (k + 1) (by omega) (by omega) _ (lv_sub hl [0, 3, 4, 1, 5] rfl)
        · refine lv_iconst (v := 1) hx hb dX2_signs_28 (by decide) ?_
          refine lv_goto (tgt := 33) hx hb dX2_signs_29 (by decide) ?_
          refine lv_iadd hx hb dX2_signs_33 ?_
          refine lv_topi (fun tp_2 etp_2 => ?_)
          obtain rfl : tp_2 = accL L sgI (k + 1) := etp_2.trans (show accL L sgI k + 1 = accL L sgI k + sgI (atL L k) from by rw [(okx_s _ (okW_at hL c13)).2 c25])
          refine lv_istore_n (lv' := [(1, .int (accL L sgI (k + 1))), (5, .int (atL L k)), (4, .int (nI k)), (3, .int (nI L.length)), (2, .ref a), (0, .ref a)]) hx hb dX2_signs_34 rfl hl (by decide) rfl (fun ls hl => ?_)
          refine lv_iinc (v := nI (k + 1)) (lv' := [(4, .int (nI (k + 1))), (1, .int (accL L sgI (k + 1))), (5, .int (atL L k)), (3, .int (nI L.length)), (2, .ref a), (0, .ref a)]) hx hb dX2_signs_35 hl (k := 2) rfl (g_inc _) (by decide) rfl (fun ls hl => ?_)
          refine lv_goto (tgt := 10) hx hb dX2_signs_38 (by decide) ?_
          exact ih10 (k + 1) (by omega) (by omega) _ (lv_sub hl [0, 3, 4, 1, 5] rfl)
  exact lp10 ((L.length - 0) + 1) 0 (Nat.zero_le _) (Nat.lt_succ_self _) _ (lv_sub hl [0, 1, 2, 3, 4] rfl)

abbrev mt_X2_ends_rm : Room := { frames := 1, cells := 1, slots := 6, locals := 21 }
set_option maxHeartbeats 4000000 in
set_option maxRecDepth 100000 in
/-- Sim.ends -/
theorem mt_X2_ends (l : Launch) (dC : Nat → ClassId) (dI : Nat → Nat → Nat) (cA : ClassId) (sz : Nat) (y0 : Nat) (q0 : Nat) (rn : Nat) (a : Nat) (L : List Int32) (hL : okW L) (hl1 : L.length ≤ 1000) (hrn : rn ≤ 6) : Met l yX2_ends wsX2_ends mt_X2_ends_rm (va_Pc [.ref y0, .ref a] (gBX xT (dC, dI) [(cA, .int)] [(y0, .inr (2, [.int (nI rn), .ref q0])), (a, .inl (cA, (L.length, .inl (atL L))))] sz)) (gQ (dC, dI) (fun u : Nat => some (.ref u)) (fun u : Nat => True) (fun u : Nat => [(y0, .inr (2, [.int (nI rn), .ref q0])), (a, .inl (cA, (L.length, .inl (atL L)))), (u, .inl (cA, ((ensL rn L).length, .inl (atL (ensL rn L)))))]) (va_A [(y0, .inr (2, [.int (nI rn), .ref q0])), (a, .inl (cA, (L.length, .inl (atL L))))] sz)) 1 6 (va_A [(y0, .inr (2, [.int (nI rn), .ref q0])), (a, .inl (cA, (L.length, .inl (atL L))))] sz) := by
  refine g_ofQ (cc := cX2_ends) (maxL := 10) (ret := (some (.array .int))) (by decide) rfl (Nat.le_of_ble_eq_true rfl) (fun p e s m below meth c ls hx hb hr hml hts hown hlocks hP hK hl hin A hA hD hS hXX => ?_)
  have hl : lv_has ls 10 [(0, .ref y0), (1, .ref a)] := hl
  refine lv_aload_n hx hb dX2_ends_0 rfl (lv_at hl 0 rfl) ?_
  refine va_get (D := (dC, dI)) (ci := 2) (v := .int (nI rn)) (C := RX2) (T := TX2) (N := 2) hx hb hts (in_X2_ends_2) hown hK hP 0 rfl rfl 0 (by decide) (hts (.fieldLink RX2 7 "BraidWordsLaw$Sim" "ropes" "I") (List.mem_of_getElem? (i := 1) rfl)) (fun _ h9 => h9) rfl dX2_ends_1 ?_
  refine va_newa (atype := .int) (ty := .int) (a0 := (rn, .inl (fun _ => 0))) (N' := rn) hx hb (hts (.arrayClass .int) (List.mem_of_getElem? (i := 2) rfl)) rfl hK hP hD hS hA (fun _ => rfl) (nI_pos (by omega)) (nI_clamp (by omega)) (by show _ * 4 ≤ _; omega) (by show _ ≤ 1; omega) (by show _ ≤ 6; omega) dX2_ends_4 (fun nq_1 cA_2 H hK9 hP hD hS => ?_)
  have eA9 : cA_2 = cA := Option.some.inj ((hK9.2 1 _ rfl).2.symm.trans (hK.2 0 _ rfl).2)
  rw [eA9] at hP hD
  have hP : va_P (dC, dI) vwCl [(y0, .inr (2, [.int (nI rn), .ref q0])), (a, .inl (cA, (L.length, .inl (atL L)))), (nq_1, .inl (cA, (rn, .inl (fun _ => 0))))] H := hP
  have hD : va_D A [(y0, .inr (2, [.int (nI rn), .ref q0])), (a, .inl (cA, (L.length, .inl (atL L)))), (nq_1, .inl (cA, (rn, .inl (fun _ => 0))))] := hD
  refine lv_astore_n (lv' := [(2, .ref nq_1), (0, .ref y0), (1, .ref a)]) hx hb dX2_ends_6 rfl hl (by decide) rfl (fun ls hl => ?_)
  refine lv_iconst (v := 0) hx hb dX2_ends_7 (by decide) ?_
  refine lv_istore_n (lv' := [(3, .int 0), (2, .ref nq_1), (0, .ref y0), (1, .ref a)]) hx hb dX2_ends_8 rfl hl (by decide) rfl (fun ls hl => ?_)
  have lp9 : ∀ (d : Nat) (r : Nat) (g : Nat → Int32) (hr9 : r ≤ rn) (hg : ∀ j, j < r → g j = plE L (nI j) L.length), rn - r < d → ∀ (H : Heap) (locs : List Loc), va_P (dC, dI) vwCl [(y0, .inr (2, [.int (nI rn), .ref q0])), (a, .inl (cA, (L.length, .inl (atL L)))), (nq_1, .inl (cA, (rn, .inl g)))] H → va_D A [(y0, .inr (2, [.int (nI rn), .ref q0])), (a, .inl (cA, (L.length, .inl (atL L)))), (nq_1, .inl (cA, (rn, .inl g)))] → va_S A s.heap H locs → ∀ ls : Array Slot, lv_has ls 10 [(3, .int (nI r)), (2, .ref nq_1), (0, .ref y0), (1, .ref a)] → W p l e mt_X2_ends_rm s m ([.ref y0, .ref a] : List Value).toArray below meth c H locs (0 + 1) (0 + rn) (MQ below (gQ (dC, dI) (fun u : Nat => some (.ref u)) (fun u : Nat => True) (fun u : Nat => [(y0, .inr (2, [.int (nI rn), .ref q0])), (a, .inl (cA, (L.length, .inl (atL L)))), (u, .inl (cA, ((ensL rn L).length, .inl (atL (ensL rn L)))))]) A) ([.ref y0, .ref a] : List Value).toArray s 1 6 A) (F0 m 9 ls []) := by
    intro d
    induction d with
    | zero => intro r g hr9 hg hd; exact absurd hd (Nat.not_lt_zero _)
    | succ d ih9 =>
      intro r g hr9 hg hd H locs hP hD hS ls hl
      refine lv_iload_n hx hb dX2_ends_9 rfl (lv_at hl 0 rfl) ?_
      refine lv_aload_n hx hb dX2_ends_10 rfl (lv_at hl 2 rfl) ?_
      refine va_get (D := (dC, dI)) (ci := 2) (v := .int (nI rn)) (C := RX2) (T := TX2) (N := 2) hx hb hts (in_X2_ends_2) hown hK hP 0 rfl rfl 0 (by decide) (hts (.fieldLink RX2 7 "BraidWordsLaw$Sim" "ropes" "I") (List.mem_of_getElem? (i := 1) rfl)) (fun _ h9 => h9) rfl dX2_ends_11 ?_
      refine lv_icmp_ge (tgt := 101) hx hb dX2_ends_14 (by decide) (fun c14 => ?_) (fun c14 => ?_)
      · have c14 : rn ≤ r := g_geT r rn (by omega) (by omega) c14
        refine lv_aload_n hx hb dX2_ends_101 rfl (lv_at hl 1 rfl) ?_
        have hP := va_canon hP 2 rfl (ensL rn L) ens_len.symm (fun j hj => by rw [ens_len] at hj; rw [ens_at hj]; exact hg j (by omega))
        have hD := va_canonD hD 2 rfl (ensL rn L) (cA := cA)
        have hP : va_P (dC, dI) vwCl [(y0, .inr (2, [.int (nI rn), .ref q0])), (a, .inl (cA, (L.length, .inl (atL L)))), (nq_1, .inl (cA, ((ensL rn L).length, .inl (atL (ensL rn L)))))] H := hP
        have hD : va_D A [(y0, .inr (2, [.int (nI rn), .ref q0])), (a, .inl (cA, (L.length, .inl (atL L)))), (nq_1, .inl (cA, ((ensL rn L).length, .inl (atL (ensL rn L)))))] := hD
        exact g_endQa hx hb hr (Or.inr ⟨_, rfl⟩) (Or.inr ⟨_, rfl⟩) hlocks hP hD hS dX2_ends_102 nq_1 rfl rfl trivial (by omega) (by omega)
      · have c14 : r < rn := g_geF r rn (by omega) (by omega) c14
        refine lv_iload_n hx hb dX2_ends_17 rfl (lv_at hl 0 rfl) ?_
        refine lv_istore (lv' := [(4, .int (nI r)), (3, .int (nI r)), (2, .ref nq_1), (0, .ref y0), (1, .ref a)]) hx hb dX2_ends_18 hl (by decide) rfl (fun ls hl => ?_)
        refine lv_aload_n hx hb dX2_ends_20 rfl (lv_at hl 4 rfl) ?_
        refine lv_astore (lv' := [(5, .ref a), (4, .int (nI r)), (3, .int (nI r)), (2, .ref nq_1), (0, .ref y0), (1, .ref a)]) hx hb dX2_ends_21 hl (by decide) rfl (fun ls hl => ?_)
        refine lv_aload hx hb dX2_ends_23 (lv_at hl 0 rfl) ?_
        refine va_alen (v := nI L.length) hx hb hK hP 1 0 rfl rfl rfl dX2_ends_25 ?_
        refine lv_istore (lv' := [(6, .int (nI L.length)), (5, .ref a), (4, .int (nI r)), (3, .int (nI r)), (2, .ref nq_1), (0, .ref y0), (1, .ref a)]) hx hb dX2_ends_26 hl (by decide) rfl (fun ls hl => ?_)
        refine lv_iconst (v := 0) hx hb dX2_ends_28 (by decide) ?_
        refine lv_istore (lv' := [(7, .int 0), (6, .int (nI L.length)), (5, .ref a), (4, .int (nI r)), (3, .int (nI r)), (2, .ref nq_1), (0, .ref y0), (1, .ref a)]) hx hb dX2_ends_29 hl (by decide) rfl (fun ls hl => ?_)
        have lp31 : ∀ (d : Nat) (k : Nat) (hk9 : k ≤ L.length), L.length - k < d → ∀ ls : Array Slot, lv_has ls 10 [(7, .int (nI k)), (6, .int (nI L.length)), (5, .ref a), (4, .int (plE L (nI r) k)), (3, .int (nI r)), (2, .ref nq_1), (0, .ref y0), (1, .ref a)] → W p l e mt_X2_ends_rm s m ([.ref y0, .ref a] : List Value).toArray below meth c H locs (0 + 1) (0 + rn) (MQ below (gQ (dC, dI) (fun u : Nat => some (.ref u)) (fun u : Nat => True) (fun u : Nat => [(y0, .inr (2, [.int (nI rn), .ref q0])), (a, .inl (cA, (L.length, .inl (atL L)))), (u, .inl (cA, ((ensL rn L).length, .inl (atL (ensL rn L)))))]) A) ([.ref y0, .ref a] : List Value).toArray s 1 6 A) (F0 m 31 ls []) := by
          intro d
          induction d with
          | zero => intro k hk9 hd; exact absurd hd (Nat.not_lt_zero _)
          | succ d ih31 =>
            intro k hk9 hd ls hl
            refine lv_iload hx hb dX2_ends_31 (lv_at hl 0 rfl) ?_
            refine lv_iload hx hb dX2_ends_33 (lv_at hl 1 rfl) ?_
            refine lv_icmp_ge (tgt := 90) hx hb dX2_ends_35 (by decide) (fun c35 => ?_) (fun c35 => ?_)
            · have c35 : L.length ≤ k := g_geT k L.length (by omega) (by omega) c35
              have hkl : k = L.length := by omega
              rw [hkl] at hl
              refine lv_aload_n hx hb dX2_ends_90 rfl (lv_at hl 5 rfl) ?_
              refine lv_iload_n hx hb dX2_ends_91 rfl (lv_at hl 4 rfl) ?_
              refine lv_iload hx hb dX2_ends_92 (lv_at hl 3 rfl) ?_
              refine va_iast hx hb hK hP hD hS 2 0 rfl rfl (vp_in_nI (by omega) (by omega)) dX2_ends_94 (fun H locs hP hD hS => ?_)
              rw [show (nI r).toNatClampNeg = r from nI_clamp (by omega)] at hP hD
              have hP : va_P (dC, dI) vwCl [(y0, .inr (2, [.int (nI rn), .ref q0])), (a, .inl (cA, (L.length, .inl (atL L)))), (nq_1, .inl (cA, (rn, .inl (upd g r (plE L (nI r) L.length)))))] H := hP
              have hD : va_D A [(y0, .inr (2, [.int (nI rn), .ref q0])), (a, .inl (cA, (L.length, .inl (atL L)))), (nq_1, .inl (cA, (rn, .inl (upd g r (plE L (nI r) L.length)))))] := hD
              refine lv_iinc (v := nI (r + 1)) (lv' := [(3, .int (nI (r + 1))), (7, .int (nI L.length)), (6, .int (nI L.length)), (5, .ref a), (4, .int (plE L (nI r) L.length)), (2, .ref nq_1), (0, .ref y0), (1, .ref a)]) hx hb dX2_ends_95 hl (k := 4) rfl (g_inc _) (by decide) rfl (fun ls hl => ?_)
              refine lv_goto (tgt := 9) hx hb dX2_ends_98 (by decide) ?_
              exact ih9 (r + 1) (upd g r (plE L (nI r) L.length)) (by omega) (ar_ens hg rfl) (by omega) _ _ hP hD hS _ (lv_sub hl [0, 5, 6, 7] rfl)
            · have c35 : k < L.length := g_geF k L.length (by omega) (by omega) c35
              refine lv_aload hx hb dX2_ends_38 (lv_at hl 2 rfl) ?_
              refine lv_iload hx hb dX2_ends_40 (lv_at hl 0 rfl) ?_
              refine va_iald hx hb hK hP 1 0 rfl rfl (vp_in_nI (by omega) (by omega)) dX2_ends_42 ?_
              rw [show (nI k).toNatClampNeg = k from nI_clamp (by omega)]
              refine lv_istore (lv' := [(8, .int (atL L k)), (7, .int (nI k)), (6, .int (nI L.length)), (5, .ref a), (4, .int (plE L (nI r) k)), (3, .int (nI r)), (2, .ref nq_1), (0, .ref y0), (1, .ref a)]) hx hb dX2_ends_43 hl (by decide) rfl (fun ls hl => ?_)
              refine lv_iload hx hb dX2_ends_45 (lv_at hl 0 rfl) ?_
              refine va_mabs hx hb (hml.trans hl.1.symm) hown (hts (.methodLink RX2 19 Lib.Math.abs.name) (List.mem_of_getElem? (i := 3) rfl)) (hts (.static Lib.Math.abs.name) (List.mem_of_getElem? (i := 4) rfl)) (hts (.initialized "java/lang/Math") (List.mem_of_getElem? (i := 5) rfl)) (hts (.code Lib.Math.abs.name Lib.Math.abs.code 1 (some .int)) (List.mem_of_getElem? (i := 6) rfl)) (Nat.le_of_ble_eq_true rfl) (Nat.le_of_ble_eq_true rfl) (by show _ ≤ 1; omega) (by show _ ≤ 6; omega) dX2_ends_47 ?_
              rw [mabs_eq]
              refine lv_istore (lv' := [(9, .int (abI (atL L k))), (8, .int (atL L k)), (7, .int (nI k)), (6, .int (nI L.length)), (5, .ref a), (4, .int (plE L (nI r) k)), (3, .int (nI r)), (2, .ref nq_1), (0, .ref y0), (1, .ref a)]) hx hb dX2_ends_50 hl (by decide) rfl (fun ls hl => ?_)
              refine lv_iload hx hb dX2_ends_52 (lv_at hl 5 rfl) ?_
              refine lv_iload hx hb dX2_ends_54 (lv_at hl 0 rfl) ?_
              refine lv_icmp_ne (tgt := 66) hx hb dX2_ends_56 (by decide) (fun c56 => ?_) (fun c56 => ?_)
              · refine lv_iload hx hb dX2_ends_66 (lv_at hl 5 rfl) ?_
                refine lv_iload hx hb dX2_ends_68 (lv_at hl 0 rfl) ?_
                refine lv_iconst (v := 1) hx hb dX2_ends_70 (by decide) ?_
                refine lv_isub hx hb dX2_ends_71 ?_
                refine lv_icmp_ne (tgt := 80) hx hb dX2_ends_72 (by decide) (fun c72 => ?_) (fun c72 => ?_)
                · refine lv_iload hx hb dX2_ends_80 (lv_at hl 5 rfl) ?_
                  refine lv_topi (fun tp_3 etp_3 => ?_)
                  obtain rfl : tp_3 = plE L (nI r) (k + 1) := etp_3.trans (plB_c c56 c72)
                  refine lv_istore (lv' := [(4, .int (plE L (nI r) (k + 1))), (9, .int (abI (atL L k))), (8, .int (atL L k)), (7, .int (nI k)), (6, .int (nI L.length)), (5, .ref a), (3, .int (nI r)), (2, .ref nq_1), (0, .ref y0), (1, .ref a)]) hx hb dX2_ends_82 hl (by decide) rfl (fun ls hl => ?_)
                  refine lv_iinc (v := nI (k + 1)) (lv' := [(7, .int (nI (k + 1))), (4, .int (plE L (nI r) (k + 1))), (9, .int (abI (atL L k))), (8, .int (atL L k)), (6, .int (nI L.length)), (5, .ref a), (3, .int (nI r)), (2, .ref nq_1), (0, .ref y0), (1, .ref a)]) hx hb dX2_ends_84 hl (k := 3) rfl (g_inc _) (by decide) rfl (fun ls hl => ?_)
                  refine lv_goto (tgt := 31) hx hb dX2_ends_87 (by decide) ?_
                  exact ih31 (k + 1) (by omega) (by omega) _ (lv_sub hl [0, 4, 5, 1, 6, 7, 8, 9] rfl)
                · refine lv_iload hx hb dX2_ends_75 (lv_at hl 0 rfl) ?_
                  refine lv_goto (tgt := 82) hx hb dX2_ends_77 (by decide) ?_
                  refine lv_topi (fun tp_4 etp_4 => ?_)
                  obtain rfl : tp_4 = plE L (nI r) (k + 1) := etp_4.trans (plB_b c72)
                  refine lv_istore (lv' := [(4, .int (plE L (nI r) (k + 1))), (9, .int (abI (atL L k))), (8, .int (atL L k)), (7, .int (nI k)), (6, .int (nI L.length)), (5, .ref a), (3, .int (nI r)), (2, .ref nq_1), (0, .ref y0), (1, .ref a)]) hx hb dX2_ends_82 hl (by decide) rfl (fun ls hl => ?_)
                  refine lv_iinc (v := nI (k + 1)) (lv' := [(7, .int (nI (k + 1))), (4, .int (plE L (nI r) (k + 1))), (9, .int (abI (atL L k))), (8, .int (atL L k)), (6, .int (nI L.length)), (5, .ref a), (3, .int (nI r)), (2, .ref nq_1), (0, .ref y0), (1, .ref a)]) hx hb dX2_ends_84 hl (k := 3) rfl (g_inc _) (by decide) rfl (fun ls hl => ?_)
                  refine lv_goto (tgt := 31) hx hb dX2_ends_87 (by decide) ?_
                  exact ih31 (k + 1) (by omega) (by omega) _ (lv_sub hl [0, 4, 5, 1, 6, 7, 8, 9] rfl)
              · refine lv_iload hx hb dX2_ends_59 (lv_at hl 0 rfl) ?_
                refine lv_iconst (v := 1) hx hb dX2_ends_61 (by decide) ?_
                refine lv_isub hx hb dX2_ends_62 ?_
                refine lv_goto (tgt := 82) hx hb dX2_ends_63 (by decide) ?_
                refine lv_topi (fun tp_5 etp_5 => ?_)
                obtain rfl : tp_5 = plE L (nI r) (k + 1) := etp_5.trans (plB_a (okW_at hL c35) c56)
                refine lv_istore (lv' := [(4, .int (plE L (nI r) (k + 1))), (9, .int (abI (atL L k))), (8, .int (atL L k)), (7, .int (nI k)), (6, .int (nI L.length)), (5, .ref a), (3, .int (nI r)), (2, .ref nq_1), (0, .ref y0), (1, .ref a)]) hx hb dX2_ends_82 hl (by decide) rfl (fun ls hl => ?_)
                refine lv_iinc (v := nI (k + 1)) (lv' := [(7, .int (nI (k + 1))), (4, .int (plE L (nI r) (k + 1))), (9, .int (abI (atL L k))), (8, .int (atL L k)), (6, .int (nI L.length)), (5, .ref a), (3, .int (nI r)), (2, .ref nq_1), (0, .ref y0), (1, .ref a)]) hx hb dX2_ends_84 hl (k := 3) rfl (g_inc _) (by decide) rfl (fun ls hl => ?_)
                refine lv_goto (tgt := 31) hx hb dX2_ends_87 (by decide) ?_
                exact ih31 (k + 1) (by omega) (by omega) _ (lv_sub hl [0, 4, 5, 1, 6, 7, 8, 9] rfl)
        exact lp31 ((L.length - 0) + 1) 0 (Nat.zero_le _) (Nat.lt_succ_self _) _ (lv_sub hl [0, 1, 2, 3, 4, 5, 6, 7] rfl)
  exact lp9 ((rn - 0) + 1) 0 (fun _ => 0) (Nat.zero_le _) (fun j hj => absurd hj (Nat.not_lt_zero j)) (Nat.lt_succ_self _) _ _ hP hD hS _ (lv_sub hl [0, 1, 2, 3] rfl)

abbrev mt_X2_crosses_rm : Room := { frames := 1, cells := 0, slots := 0, locals := 21 }
set_option maxHeartbeats 4000000 in
set_option maxRecDepth 100000 in
/-- Sim.crosses -/
theorem mt_X2_crosses (l : Launch) (dC : Nat → ClassId) (dI : Nat → Nat → Nat) (cA : ClassId) (sz : Nat) (y0 : Nat) (q0 : Nat) (rn : Nat) (a : Nat) (L : List Int32) (r : Nat) (o : Nat) (hL : okW L) (hl1 : L.length ≤ 1000) (hr9 : r < 6) (ho9 : o < 6) (hne : ¬ r = o) : Met l yX2_crosses wsX2_crosses mt_X2_crosses_rm (va_Pc [.ref y0, .ref a, .int (nI r), .int (nI o)] (gB (dC, dI) [(cA, .int)] [(y0, .inr (2, [.int (nI rn), .ref q0])), (a, .inl (cA, (L.length, .inl (atL L))))] sz)) (gR (some (.int (crS L (nI r) (nI o) L.length)))) 0 0 (fun _ => False) := by
  refine g_ofR (cc := cX2_crosses) (maxL := 12) (ret := (some .int)) (by decide) rfl (Nat.le_of_ble_eq_true rfl) (fun p e s m below meth c ls hx hb hr hml hts hown hlocks hP hK hl hD => ?_)
  have hS : va_S (fun _ => True) s.heap s.heap [] := va_S.rf
  have hl : lv_has ls 12 [(0, .ref y0), (1, .ref a), (2, .int (nI r)), (3, .int (nI o))] := hl
  refine lv_iload_n hx hb dX2_crosses_0 rfl (lv_at hl 2 rfl) ?_
  refine lv_istore (lv' := [(4, .int (nI r)), (0, .ref y0), (1, .ref a), (2, .int (nI r)), (3, .int (nI o))]) hx hb dX2_crosses_1 hl (by decide) rfl (fun ls hl => ?_)
  refine lv_iload_n hx hb dX2_crosses_3 rfl (lv_at hl 4 rfl) ?_
  refine lv_istore (lv' := [(5, .int (nI o)), (4, .int (nI r)), (0, .ref y0), (1, .ref a), (2, .int (nI r)), (3, .int (nI o))]) hx hb dX2_crosses_4 hl (by decide) rfl (fun ls hl => ?_)
  refine lv_iconst (v := 0) hx hb dX2_crosses_6 (by decide) ?_
  refine lv_istore (lv' := [(6, .int 0), (5, .int (nI o)), (4, .int (nI r)), (0, .ref y0), (1, .ref a), (2, .int (nI r)), (3, .int (nI o))]) hx hb dX2_crosses_7 hl (by decide) rfl (fun ls hl => ?_)
  refine lv_aload_n hx hb dX2_crosses_9 rfl (lv_at hl 4 rfl) ?_
  refine lv_astore (lv' := [(7, .ref a), (6, .int 0), (5, .int (nI o)), (4, .int (nI r)), (0, .ref y0), (1, .ref a), (2, .int (nI r)), (3, .int (nI o))]) hx hb dX2_crosses_10 hl (by decide) rfl (fun ls hl => ?_)
  refine lv_aload hx hb dX2_crosses_12 (lv_at hl 0 rfl) ?_
  refine va_alen (v := nI L.length) hx hb hK hP 1 0 rfl rfl rfl dX2_crosses_14 ?_
  refine lv_istore (lv' := [(8, .int (nI L.length)), (7, .ref a), (6, .int 0), (5, .int (nI o)), (4, .int (nI r)), (0, .ref y0), (1, .ref a), (2, .int (nI r)), (3, .int (nI o))]) hx hb dX2_crosses_15 hl (by decide) rfl (fun ls hl => ?_)
  refine lv_iconst (v := 0) hx hb dX2_crosses_17 (by decide) ?_
  refine lv_istore (lv' := [(9, .int 0), (8, .int (nI L.length)), (7, .ref a), (6, .int 0), (5, .int (nI o)), (4, .int (nI r)), (0, .ref y0), (1, .ref a), (2, .int (nI r)), (3, .int (nI o))]) hx hb dX2_crosses_18 hl (by decide) rfl (fun ls hl => ?_)
  have lp20 : ∀ (d : Nat) (k : Nat) (hk9 : k ≤ L.length), L.length - k < d → ∀ ls : Array Slot, lv_has ls 12 [(9, .int (nI k)), (8, .int (nI L.length)), (7, .ref a), (6, .int (crS L (nI r) (nI o) k)), (5, .int (plE L (nI o) k)), (4, .int (plE L (nI r) k)), (0, .ref y0), (1, .ref a)] → W p l e mt_X2_crosses_rm s m ([.ref y0, .ref a, .int (nI r), .int (nI o)] : List Value).toArray below meth c s.heap [] 0 0 (MQ below (gR (some (.int (crS L (nI r) (nI o) L.length)))) ([.ref y0, .ref a, .int (nI r), .int (nI o)] : List Value).toArray s 0 0 (fun _ => False)) (F0 m 20 ls []) := by
    intro d
    induction d with
    | zero => intro k hk9 hd; exact absurd hd (Nat.not_lt_zero _)
    | succ d ih20 =>
      intro k hk9 hd ls hl
      refine lv_iload hx hb dX2_crosses_20 (lv_at hl 0 rfl) ?_
      refine lv_iload hx hb dX2_crosses_22 (lv_at hl 1 rfl) ?_
      refine lv_icmp_ge (tgt := 152) hx hb dX2_crosses_24 (by decide) (fun c24 => ?_) (fun c24 => ?_)
      · have c24 : L.length ≤ k := g_geT k L.length (by omega) (by omega) c24
        refine lv_iload hx hb dX2_crosses_152 (lv_at hl 3 rfl) ?_
        exact g_endRi hx hb hr hlocks dX2_crosses_154 (by rw [show k = L.length by omega])
      · have c24 : k < L.length := g_geF k L.length (by omega) (by omega) c24
        refine lv_aload hx hb dX2_crosses_27 (lv_at hl 2 rfl) ?_
        refine lv_iload hx hb dX2_crosses_29 (lv_at hl 0 rfl) ?_
        refine va_iald hx hb hK hP 1 0 rfl rfl (vp_in_nI (by omega) (by omega)) dX2_crosses_31 ?_
        rw [show (nI k).toNatClampNeg = k from nI_clamp (by omega)]
        refine lv_istore (lv' := [(10, .int (atL L k)), (9, .int (nI k)), (8, .int (nI L.length)), (7, .ref a), (6, .int (crS L (nI r) (nI o) k)), (5, .int (plE L (nI o) k)), (4, .int (plE L (nI r) k)), (0, .ref y0), (1, .ref a)]) hx hb dX2_crosses_32 hl (by decide) rfl (fun ls hl => ?_)
        refine lv_iload hx hb dX2_crosses_34 (lv_at hl 0 rfl) ?_
        refine va_mabs hx hb (hml.trans hl.1.symm) hown (hts (.methodLink RX2 19 Lib.Math.abs.name) (List.mem_of_getElem? (i := 1) rfl)) (hts (.static Lib.Math.abs.name) (List.mem_of_getElem? (i := 2) rfl)) (hts (.initialized "java/lang/Math") (List.mem_of_getElem? (i := 3) rfl)) (hts (.code Lib.Math.abs.name Lib.Math.abs.code 1 (some .int)) (List.mem_of_getElem? (i := 4) rfl)) (Nat.le_of_ble_eq_true rfl) (Nat.le_of_ble_eq_true rfl) (Nat.zero_le _) (Nat.zero_le _) dX2_crosses_36 ?_
        rw [mabs_eq]
        refine lv_istore (lv' := [(11, .int (abI (atL L k))), (10, .int (atL L k)), (9, .int (nI k)), (8, .int (nI L.length)), (7, .ref a), (6, .int (crS L (nI r) (nI o) k)), (5, .int (plE L (nI o) k)), (4, .int (plE L (nI r) k)), (0, .ref y0), (1, .ref a)]) hx hb dX2_crosses_39 hl (by decide) rfl (fun ls hl => ?_)
        have jn82 : ∀ ls : Array Slot, lv_has ls 12 [(11, .int (abI (atL L k))), (9, .int (nI k)), (8, .int (nI L.length)), (7, .ref a), (6, .int (crS L (nI r) (nI o) (k + 1))), (5, .int (plE L (nI o) k)), (4, .int (plE L (nI r) k)), (0, .ref y0), (1, .ref a)] → W p l e mt_X2_crosses_rm s m ([.ref y0, .ref a, .int (nI r), .int (nI o)] : List Value).toArray below meth c s.heap [] 0 0 (MQ below (gR (some (.int (crS L (nI r) (nI o) L.length)))) ([.ref y0, .ref a, .int (nI r), .int (nI o)] : List Value).toArray s 0 0 (fun _ => False)) (F0 m 82 ls []) := by
          intro ls hl
          refine lv_iload hx hb dX2_crosses_82 (lv_at hl 6 rfl) ?_
          refine lv_iload hx hb dX2_crosses_84 (lv_at hl 0 rfl) ?_
          refine lv_icmp_ne (tgt := 96) hx hb dX2_crosses_86 (by decide) (fun c86 => ?_) (fun c86 => ?_)
          · refine lv_iload hx hb dX2_crosses_96 (lv_at hl 6 rfl) ?_
            refine lv_iload hx hb dX2_crosses_98 (lv_at hl 0 rfl) ?_
            refine lv_iconst (v := 1) hx hb dX2_crosses_100 (by decide) ?_
            refine lv_isub hx hb dX2_crosses_101 ?_
            refine lv_icmp_ne (tgt := 110) hx hb dX2_crosses_102 (by decide) (fun c102 => ?_) (fun c102 => ?_)
            · refine lv_iload hx hb dX2_crosses_110 (lv_at hl 6 rfl) ?_
              refine lv_topi (fun tp_1 etp_1 => ?_)
              obtain rfl : tp_1 = plE L (nI r) (k + 1) := etp_1.trans (plB_c c86 c102)
              refine lv_istore (lv' := [(4, .int (plE L (nI r) (k + 1))), (11, .int (abI (atL L k))), (9, .int (nI k)), (8, .int (nI L.length)), (7, .ref a), (6, .int (crS L (nI r) (nI o) (k + 1))), (5, .int (plE L (nI o) k)), (0, .ref y0), (1, .ref a)]) hx hb dX2_crosses_112 hl (by decide) rfl (fun ls hl => ?_)
              refine lv_iload hx hb dX2_crosses_114 (lv_at hl 6 rfl) ?_
              refine lv_iload hx hb dX2_crosses_116 (lv_at hl 1 rfl) ?_
              refine lv_icmp_ne (tgt := 128) hx hb dX2_crosses_118 (by decide) (fun c118 => ?_) (fun c118 => ?_)
              · refine lv_iload hx hb dX2_crosses_128 (lv_at hl 6 rfl) ?_
                refine lv_iload hx hb dX2_crosses_130 (lv_at hl 1 rfl) ?_
                refine lv_iconst (v := 1) hx hb dX2_crosses_132 (by decide) ?_
                refine lv_isub hx hb dX2_crosses_133 ?_
                refine lv_icmp_ne (tgt := 142) hx hb dX2_crosses_134 (by decide) (fun c134 => ?_) (fun c134 => ?_)
                · refine lv_iload hx hb dX2_crosses_142 (lv_at hl 6 rfl) ?_
                  refine lv_topi (fun tp_2 etp_2 => ?_)
                  obtain rfl : tp_2 = plE L (nI o) (k + 1) := etp_2.trans (plB_c c118 c134)
                  refine lv_istore (lv' := [(5, .int (plE L (nI o) (k + 1))), (4, .int (plE L (nI r) (k + 1))), (11, .int (abI (atL L k))), (9, .int (nI k)), (8, .int (nI L.length)), (7, .ref a), (6, .int (crS L (nI r) (nI o) (k + 1))), (0, .ref y0), (1, .ref a)]) hx hb dX2_crosses_144 hl (by decide) rfl (fun ls hl => ?_)
                  refine lv_iinc (v := nI (k + 1)) (lv' := [(9, .int (nI (k + 1))), (5, .int (plE L (nI o) (k + 1))), (4, .int (plE L (nI r) (k + 1))), (11, .int (abI (atL L k))), (8, .int (nI L.length)), (7, .ref a), (6, .int (crS L (nI r) (nI o) (k + 1))), (0, .ref y0), (1, .ref a)]) hx hb dX2_crosses_146 hl (k := 3) rfl (g_inc _) (by decide) rfl (fun ls hl => ?_)
                  refine lv_goto (tgt := 20) hx hb dX2_crosses_149 (by decide) ?_
                  exact ih20 (k + 1) (by omega) (by omega) _ (lv_sub hl [0, 4, 5, 6, 1, 2, 7, 8] rfl)
                · refine lv_iload hx hb dX2_crosses_137 (lv_at hl 1 rfl) ?_
                  refine lv_goto (tgt := 144) hx hb dX2_crosses_139 (by decide) ?_
                  refine lv_topi (fun tp_3 etp_3 => ?_)
                  obtain rfl : tp_3 = plE L (nI o) (k + 1) := etp_3.trans (plB_b c134)
                  refine lv_istore (lv' := [(5, .int (plE L (nI o) (k + 1))), (4, .int (plE L (nI r) (k + 1))), (11, .int (abI (atL L k))), (9, .int (nI k)), (8, .int (nI L.length)), (7, .ref a), (6, .int (crS L (nI r) (nI o) (k + 1))), (0, .ref y0), (1, .ref a)]) hx hb dX2_crosses_144 hl (by decide) rfl (fun ls hl => ?_)
                  refine lv_iinc (v := nI (k + 1)) (lv' := [(9, .int (nI (k + 1))), (5, .int (plE L (nI o) (k + 1))), (4, .int (plE L (nI r) (k + 1))), (11, .int (abI (atL L k))), (8, .int (nI L.length)), (7, .ref a), (6, .int (crS L (nI r) (nI o) (k + 1))), (0, .ref y0), (1, .ref a)]) hx hb dX2_crosses_146 hl (k := 3) rfl (g_inc _) (by decide) rfl (fun ls hl => ?_)
                  refine lv_goto (tgt := 20) hx hb dX2_crosses_149 (by decide) ?_
                  exact ih20 (k + 1) (by omega) (by omega) _ (lv_sub hl [0, 4, 5, 6, 1, 2, 7, 8] rfl)
              · refine lv_iload hx hb dX2_crosses_121 (lv_at hl 1 rfl) ?_
                refine lv_iconst (v := 1) hx hb dX2_crosses_123 (by decide) ?_
                refine lv_isub hx hb dX2_crosses_124 ?_
                refine lv_goto (tgt := 144) hx hb dX2_crosses_125 (by decide) ?_
                refine lv_topi (fun tp_4 etp_4 => ?_)
                obtain rfl : tp_4 = plE L (nI o) (k + 1) := etp_4.trans (plB_a (okW_at hL c24) c118)
                refine lv_istore (lv' := [(5, .int (plE L (nI o) (k + 1))), (4, .int (plE L (nI r) (k + 1))), (11, .int (abI (atL L k))), (9, .int (nI k)), (8, .int (nI L.length)), (7, .ref a), (6, .int (crS L (nI r) (nI o) (k + 1))), (0, .ref y0), (1, .ref a)]) hx hb dX2_crosses_144 hl (by decide) rfl (fun ls hl => ?_)
                refine lv_iinc (v := nI (k + 1)) (lv' := [(9, .int (nI (k + 1))), (5, .int (plE L (nI o) (k + 1))), (4, .int (plE L (nI r) (k + 1))), (11, .int (abI (atL L k))), (8, .int (nI L.length)), (7, .ref a), (6, .int (crS L (nI r) (nI o) (k + 1))), (0, .ref y0), (1, .ref a)]) hx hb dX2_crosses_146 hl (k := 3) rfl (g_inc _) (by decide) rfl (fun ls hl => ?_)
                refine lv_goto (tgt := 20) hx hb dX2_crosses_149 (by decide) ?_
                exact ih20 (k + 1) (by omega) (by omega) _ (lv_sub hl [0, 4, 5, 6, 1, 2, 7, 8] rfl)
            · refine lv_iload hx hb dX2_crosses_105 (lv_at hl 0 rfl) ?_
              refine lv_goto (tgt := 112) hx hb dX2_crosses_107 (by decide) ?_
              refine lv_topi (fun tp_5 etp_5 => ?_)
              obtain rfl : tp_5 = plE L (nI r) (k + 1) := etp_5.trans (plB_b c102)
              refine lv_istore (lv' := [(4, .int (plE L (nI r) (k + 1))), (11, .int (abI (atL L k))), (9, .int (nI k)), (8, .int (nI L.length)), (7, .ref a), (6, .int (crS L (nI r) (nI o) (k + 1))), (5, .int (plE L (nI o) k)), (0, .ref y0), (1, .ref a)]) hx hb dX2_crosses_112 hl (by decide) rfl (fun ls hl => ?_)
              refine lv_iload hx hb dX2_crosses_114 (lv_at hl 6 rfl) ?_
              refine lv_iload hx hb dX2_crosses_116 (lv_at hl 1 rfl) ?_
              refine lv_icmp_ne (tgt := 128) hx hb dX2_crosses_118 (by decide) (fun c118 => ?_) (fun c118 => ?_)
              · refine lv_iload hx hb dX2_crosses_128 (lv_at hl 6 rfl) ?_
                refine lv_iload hx hb dX2_crosses_130 (lv_at hl 1 rfl) ?_
                refine lv_iconst (v := 1) hx hb dX2_crosses_132 (by decide) ?_
                refine lv_isub hx hb dX2_crosses_133 ?_
                refine lv_icmp_ne (tgt := 142) hx hb dX2_crosses_134 (by decide) (fun c134 => ?_) (fun c134 => ?_)
                · refine lv_iload hx hb dX2_crosses_142 (lv_at hl 6 rfl) ?_
                  refine lv_topi (fun tp_6 etp_6 => ?_)
                  obtain rfl : tp_6 = plE L (nI o) (k + 1) := etp_6.trans (plB_c c118 c134)
                  refine lv_istore (lv' := [(5, .int (plE L (nI o) (k + 1))), (4, .int (plE L (nI r) (k + 1))), (11, .int (abI (atL L k))), (9, .int (nI k)), (8, .int (nI L.length)), (7, .ref a), (6, .int (crS L (nI r) (nI o) (k + 1))), (0, .ref y0), (1, .ref a)]) hx hb dX2_crosses_144 hl (by decide) rfl (fun ls hl => ?_)
                  refine lv_iinc (v := nI (k + 1)) (lv' := [(9, .int (nI (k + 1))), (5, .int (plE L (nI o) (k + 1))), (4, .int (plE L (nI r) (k + 1))), (11, .int (abI (atL L k))), (8, .int (nI L.length)), (7, .ref a), (6, .int (crS L (nI r) (nI o) (k + 1))), (0, .ref y0), (1, .ref a)]) hx hb dX2_crosses_146 hl (k := 3) rfl (g_inc _) (by decide) rfl (fun ls hl => ?_)
                  refine lv_goto (tgt := 20) hx hb dX2_crosses_149 (by decide) ?_
                  exact ih20 (k + 1) (by omega) (by omega) _ (lv_sub hl [0, 4, 5, 6, 1, 2, 7, 8] rfl)
                · refine lv_iload hx hb dX2_crosses_137 (lv_at hl 1 rfl) ?_
                  refine lv_goto (tgt := 144) hx hb dX2_crosses_139 (by decide) ?_
                  refine lv_topi (fun tp_7 etp_7 => ?_)
                  obtain rfl : tp_7 = plE L (nI o) (k + 1) := etp_7.trans (plB_b c134)
                  refine lv_istore (lv' := [(5, .int (plE L (nI o) (k + 1))), (4, .int (plE L (nI r) (k + 1))), (11, .int (abI (atL L k))), (9, .int (nI k)), (8, .int (nI L.length)), (7, .ref a), (6, .int (crS L (nI r) (nI o) (k + 1))), (0, .ref y0), (1, .ref a)]) hx hb dX2_crosses_144 hl (by decide) rfl (fun ls hl => ?_)
                  refine lv_iinc (v := nI (k + 1)) (lv' := [(9, .int (nI (k + 1))), (5, .int (plE L (nI o) (k + 1))), (4, .int (plE L (nI r) (k + 1))), (11, .int (abI (atL L k))), (8, .int (nI L.length)), (7, .ref a), (6, .int (crS L (nI r) (nI o) (k + 1))), (0, .ref y0), (1, .ref a)]) hx hb dX2_crosses_146 hl (k := 3) rfl (g_inc _) (by decide) rfl (fun ls hl => ?_)
                  refine lv_goto (tgt := 20) hx hb dX2_crosses_149 (by decide) ?_
                  exact ih20 (k + 1) (by omega) (by omega) _ (lv_sub hl [0, 4, 5, 6, 1, 2, 7, 8] rfl)
              · refine lv_iload hx hb dX2_crosses_121 (lv_at hl 1 rfl) ?_
                refine lv_iconst (v := 1) hx hb dX2_crosses_123 (by decide) ?_
                refine lv_isub hx hb dX2_crosses_124 ?_
                refine lv_goto (tgt := 144) hx hb dX2_crosses_125 (by decide) ?_
                refine lv_topi (fun tp_8 etp_8 => ?_)
                obtain rfl : tp_8 = plE L (nI o) (k + 1) := etp_8.trans (plB_a (okW_at hL c24) c118)
                refine lv_istore (lv' := [(5, .int (plE L (nI o) (k + 1))), (4, .int (plE L (nI r) (k + 1))), (11, .int (abI (atL L k))), (9, .int (nI k)), (8, .int (nI L.length)), (7, .ref a), (6, .int (crS L (nI r) (nI o) (k + 1))), (0, .ref y0), (1, .ref a)]) hx hb dX2_crosses_144 hl (by decide) rfl (fun ls hl => ?_)
                refine lv_iinc (v := nI (k + 1)) (lv' := [(9, .int (nI (k + 1))), (5, .int (plE L (nI o) (k + 1))), (4, .int (plE L (nI r) (k + 1))), (11, .int (abI (atL L k))), (8, .int (nI L.length)), (7, .ref a), (6, .int (crS L (nI r) (nI o) (k + 1))), (0, .ref y0), (1, .ref a)]) hx hb dX2_crosses_146 hl (k := 3) rfl (g_inc _) (by decide) rfl (fun ls hl => ?_)
                refine lv_goto (tgt := 20) hx hb dX2_crosses_149 (by decide) ?_
                exact ih20 (k + 1) (by omega) (by omega) _ (lv_sub hl [0, 4, 5, 6, 1, 2, 7, 8] rfl)
          · refine lv_iload hx hb dX2_crosses_89 (lv_at hl 0 rfl) ?_
            refine lv_iconst (v := 1) hx hb dX2_crosses_91 (by decide) ?_
            refine lv_isub hx hb dX2_crosses_92 ?_
            refine lv_goto (tgt := 112) hx hb dX2_crosses_93 (by decide) ?_
            refine lv_topi (fun tp_9 etp_9 => ?_)
            obtain rfl : tp_9 = plE L (nI r) (k + 1) := etp_9.trans (plB_a (okW_at hL c24) c86)
            refine lv_istore (lv' := [(4, .int (plE L (nI r) (k + 1))), (11, .int (abI (atL L k))), (9, .int (nI k)), (8, .int (nI L.length)), (7, .ref a), (6, .int (crS L (nI r) (nI o) (k + 1))), (5, .int (plE L (nI o) k)), (0, .ref y0), (1, .ref a)]) hx hb dX2_crosses_112 hl (by decide) rfl (fun ls hl => ?_)
            refine lv_iload hx hb dX2_crosses_114 (lv_at hl 6 rfl) ?_
            refine lv_iload hx hb dX2_crosses_116 (lv_at hl 1 rfl) ?_
            refine lv_icmp_ne (tgt := 128) hx hb dX2_crosses_118 (by decide) (fun c118 => ?_) (fun c118 => ?_)
            · refine lv_iload hx hb dX2_crosses_128 (lv_at hl 6 rfl) ?_
              refine lv_iload hx hb dX2_crosses_130 (lv_at hl 1 rfl) ?_
              refine lv_iconst (v := 1) hx hb dX2_crosses_132 (by decide) ?_
              refine lv_isub hx hb dX2_crosses_133 ?_
              refine lv_icmp_ne (tgt := 142) hx hb dX2_crosses_134 (by decide) (fun c134 => ?_) (fun c134 => ?_)
              · refine lv_iload hx hb dX2_crosses_142 (lv_at hl 6 rfl) ?_
                refine lv_topi (fun tp_10 etp_10 => ?_)
                obtain rfl : tp_10 = plE L (nI o) (k + 1) := etp_10.trans (plB_c c118 c134)
                refine lv_istore (lv' := [(5, .int (plE L (nI o) (k + 1))), (4, .int (plE L (nI r) (k + 1))), (11, .int (abI (atL L k))), (9, .int (nI k)), (8, .int (nI L.length)), (7, .ref a), (6, .int (crS L (nI r) (nI o) (k + 1))), (0, .ref y0), (1, .ref a)]) hx hb dX2_crosses_144 hl (by decide) rfl (fun ls hl => ?_)
                refine lv_iinc (v := nI (k + 1)) (lv' := [(9, .int (nI (k + 1))), (5, .int (plE L (nI o) (k + 1))), (4, .int (plE L (nI r) (k + 1))), (11, .int (abI (atL L k))), (8, .int (nI L.length)), (7, .ref a), (6, .int (crS L (nI r) (nI o) (k + 1))), (0, .ref y0), (1, .ref a)]) hx hb dX2_crosses_146 hl (k := 3) rfl (g_inc _) (by decide) rfl (fun ls hl => ?_)
                refine lv_goto (tgt := 20) hx hb dX2_crosses_149 (by decide) ?_
                exact ih20 (k + 1) (by omega) (by omega) _ (lv_sub hl [0, 4, 5, 6, 1, 2, 7, 8] rfl)
              · refine lv_iload hx hb dX2_crosses_137 (lv_at hl 1 rfl) ?_
                refine lv_goto (tgt := 144) hx hb dX2_crosses_139 (by decide) ?_
                refine lv_topi (fun tp_11 etp_11 => ?_)
                obtain rfl : tp_11 = plE L (nI o) (k + 1) := etp_11.trans (plB_b c134)
                refine lv_istore (lv' := [(5, .int (plE L (nI o) (k + 1))), (4, .int (plE L (nI r) (k + 1))), (11, .int (abI (atL L k))), (9, .int (nI k)), (8, .int (nI L.length)), (7, .ref a), (6, .int (crS L (nI r) (nI o) (k + 1))), (0, .ref y0), (1, .ref a)]) hx hb dX2_crosses_144 hl (by decide) rfl (fun ls hl => ?_)
                refine lv_iinc (v := nI (k + 1)) (lv' := [(9, .int (nI (k + 1))), (5, .int (plE L (nI o) (k + 1))), (4, .int (plE L (nI r) (k + 1))), (11, .int (abI (atL L k))), (8, .int (nI L.length)), (7, .ref a), (6, .int (crS L (nI r) (nI o) (k + 1))), (0, .ref y0), (1, .ref a)]) hx hb dX2_crosses_146 hl (k := 3) rfl (g_inc _) (by decide) rfl (fun ls hl => ?_)
                refine lv_goto (tgt := 20) hx hb dX2_crosses_149 (by decide) ?_
                exact ih20 (k + 1) (by omega) (by omega) _ (lv_sub hl [0, 4, 5, 6, 1, 2, 7, 8] rfl)
            · refine lv_iload hx hb dX2_crosses_121 (lv_at hl 1 rfl) ?_
              refine lv_iconst (v := 1) hx hb dX2_crosses_123 (by decide) ?_
              refine lv_isub hx hb dX2_crosses_124 ?_
              refine lv_goto (tgt := 144) hx hb dX2_crosses_125 (by decide) ?_
              refine lv_topi (fun tp_12 etp_12 => ?_)
              obtain rfl : tp_12 = plE L (nI o) (k + 1) := etp_12.trans (plB_a (okW_at hL c24) c118)
              refine lv_istore (lv' := [(5, .int (plE L (nI o) (k + 1))), (4, .int (plE L (nI r) (k + 1))), (11, .int (abI (atL L k))), (9, .int (nI k)), (8, .int (nI L.length)), (7, .ref a), (6, .int (crS L (nI r) (nI o) (k + 1))), (0, .ref y0), (1, .ref a)]) hx hb dX2_crosses_144 hl (by decide) rfl (fun ls hl => ?_)
              refine lv_iinc (v := nI (k + 1)) (lv' := [(9, .int (nI (k + 1))), (5, .int (plE L (nI o) (k + 1))), (4, .int (plE L (nI r) (k + 1))), (11, .int (abI (atL L k))), (8, .int (nI L.length)), (7, .ref a), (6, .int (crS L (nI r) (nI o) (k + 1))), (0, .ref y0), (1, .ref a)]) hx hb dX2_crosses_146 hl (k := 3) rfl (g_inc _) (by decide) rfl (fun ls hl => ?_)
              refine lv_goto (tgt := 20) hx hb dX2_crosses_149 (by decide) ?_
              exact ih20 (k + 1) (by omega) (by omega) _ (lv_sub hl [0, 4, 5, 6, 1, 2, 7, 8] rfl)
        refine lv_iload hx hb dX2_crosses_41 (lv_at hl 7 rfl) ?_
        refine lv_iload hx hb dX2_crosses_43 (lv_at hl 6 rfl) ?_
        refine lv_iadd hx hb dX2_crosses_45 ?_
        refine lv_iconst (v := 2) hx hb dX2_crosses_46 (by decide) ?_
        refine lv_iload hx hb dX2_crosses_47 (lv_at hl 0 rfl) ?_
        refine lv_imul hx hb dX2_crosses_49 ?_
        refine lv_iconst (v := 1) hx hb dX2_crosses_50 (by decide) ?_
        refine lv_isub hx hb dX2_crosses_51 ?_
        refine lv_icmp_ne (tgt := 82) hx hb dX2_crosses_52 (by decide) (fun c52 => ?_) (fun c52 => ?_)
        · rw [show crS L (nI r) (nI o) k = crS L (nI r) (nI o) (k + 1) from cr_skip hL hr9 ho9 hne c24 (fun q9 => c52 q9.1)] at hl
          exact jn82 _ (lv_sub hl [0, 2, 3, 4, 5, 6, 7, 8, 9] rfl)
        · refine lv_iload hx hb dX2_crosses_55 (lv_at hl 7 rfl) ?_
          refine lv_iload hx hb dX2_crosses_57 (lv_at hl 6 rfl) ?_
          refine lv_isub hx hb dX2_crosses_59 ?_
          refine va_mabs hx hb (hml.trans hl.1.symm) hown (hts (.methodLink RX2 19 Lib.Math.abs.name) (List.mem_of_getElem? (i := 1) rfl)) (hts (.static Lib.Math.abs.name) (List.mem_of_getElem? (i := 2) rfl)) (hts (.initialized "java/lang/Math") (List.mem_of_getElem? (i := 3) rfl)) (hts (.code Lib.Math.abs.name Lib.Math.abs.code 1 (some .int)) (List.mem_of_getElem? (i := 4) rfl)) (Nat.le_of_ble_eq_true rfl) (Nat.le_of_ble_eq_true rfl) (Nat.zero_le _) (Nat.zero_le _) dX2_crosses_60 ?_
          rw [mabs_eq]
          refine lv_iconst (v := 1) hx hb dX2_crosses_63 (by decide) ?_
          refine lv_icmp_ne (tgt := 82) hx hb dX2_crosses_64 (by decide) (fun c64 => ?_) (fun c64 => ?_)
          · rw [show crS L (nI r) (nI o) k = crS L (nI r) (nI o) (k + 1) from cr_skip hL hr9 ho9 hne c24 (fun q9 => c64 q9.2)] at hl
            exact jn82 _ (lv_sub hl [0, 2, 3, 4, 5, 6, 7, 8, 9] rfl)
          · refine lv_iload hx hb dX2_crosses_67 (lv_at hl 5 rfl) ?_
            refine lv_iload hx hb dX2_crosses_69 (lv_at hl 1 rfl) ?_
            refine lv_if_le (tgt := 78) hx hb dX2_crosses_71 (by decide) (fun c71 => ?_) (fun c71 => ?_)
            · refine lv_iconst (v := (-1)) hx hb dX2_crosses_78 (by decide) ?_
              refine lv_iadd hx hb dX2_crosses_79 ?_
              refine lv_topi (fun tp_13 etp_13 => ?_)
              obtain rfl : tp_13 = crS L (nI r) (nI o) (k + 1) := etp_13.trans (cr_add hL hr9 ho9 hne c24 c52 c64 ((okx_s _ (okW_at hL c24)).1 c71))
              refine lv_istore (lv' := [(6, .int (crS L (nI r) (nI o) (k + 1))), (11, .int (abI (atL L k))), (10, .int (atL L k)), (9, .int (nI k)), (8, .int (nI L.length)), (7, .ref a), (5, .int (plE L (nI o) k)), (4, .int (plE L (nI r) k)), (0, .ref y0), (1, .ref a)]) hx hb dX2_crosses_80 hl (by decide) rfl (fun ls hl => ?_)
              exact jn82 _ (lv_sub hl [1, 3, 4, 5, 0, 6, 7, 8, 9] rfl)
            · refine lv_iconst (v := 1) hx hb dX2_crosses_74 (by decide) ?_
              refine lv_goto (tgt := 79) hx hb dX2_crosses_75 (by decide) ?_
              refine lv_iadd hx hb dX2_crosses_79 ?_
              refine lv_topi (fun tp_14 etp_14 => ?_)
              obtain rfl : tp_14 = crS L (nI r) (nI o) (k + 1) := etp_14.trans (cr_add hL hr9 ho9 hne c24 c52 c64 ((okx_s _ (okW_at hL c24)).2 c71))
              refine lv_istore (lv' := [(6, .int (crS L (nI r) (nI o) (k + 1))), (11, .int (abI (atL L k))), (10, .int (atL L k)), (9, .int (nI k)), (8, .int (nI L.length)), (7, .ref a), (5, .int (plE L (nI o) k)), (4, .int (plE L (nI r) k)), (0, .ref y0), (1, .ref a)]) hx hb dX2_crosses_80 hl (by decide) rfl (fun ls hl => ?_)
              exact jn82 _ (lv_sub hl [1, 3, 4, 5, 0, 6, 7, 8, 9] rfl)
  exact lp20 ((L.length - 0) + 1) 0 (Nat.zero_le _) (Nat.lt_succ_self _) _ (lv_sub hl [0, 1, 2, 3, 4, 5, 6, 7] rfl)
