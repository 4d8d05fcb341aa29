/-! 53: the first handle by hand -/

abbrev mt_X2_handleN_rm : Room := { frames := 1, cells := 2, slots := 9, locals := 21 }
set_option maxHeartbeats 4000000 in
set_option maxRecDepth 100000 in
/-- Sim.handle, where there is none -/
theorem mt_X2_handleN (l : Launch) (dC : Nat → ClassId) (dI : Nat → Nat → Nat) (cA : ClassId) (sz : Nat) (a : Nat) (L : List Int32) (hL : okW L) (hl1 : L.length ≤ 1000) (hn : enF L 0 = none) : Met l yX2_handle wsX2_handle mt_X2_handleN_rm (va_Pc [.ref a] (gBX xT (dC, dI) [(cA, .int)] [(a, .inl (cA, (L.length, .inl (atL L))))] sz)) (gQ (dC, dI) (fun u : Unit => some .null) (fun u : Unit => True) (fun u : Unit => [(a, .inl (cA, (L.length, .inl (atL L))))]) (va_A [(a, .inl (cA, (L.length, .inl (atL L))))] sz)) 2 9 (va_A [(a, .inl (cA, (L.length, .inl (atL L))))] sz) := by
  refine g_ofQ (cc := cX2_handle) (maxL := 5) (ret := (some (.array .int))) (by decide) rfl (Nat.le_of_ble_eq_true rfl) (fun p e s m below meth c ls hx hb hr hml hts hown hlocks hP hK hl hin A hA hD hS hXX => ?_)
  have hl : lv_has ls 5 [(0, .ref a)] := hl
  refine lv_bipush (v := 7) hx hb dX2_handle_0 (by decide) ?_
  refine va_newa (atype := .int) (ty := .int) (a0 := (7, .inl (fun _ => 0))) (N' := 7) hx hb (hts (.arrayClass .int) (List.mem_of_getElem? (i := 1) rfl)) rfl hK hP hD hS hA (fun _ => rfl) (by decide) (by decide) (by decide) (by show _ ≤ 2; omega) (by show _ ≤ 9; omega) dX2_handle_2 (fun nq_1 cA_2 H hK9 hP hD hS => ?_)
  have eA9 : cA_2 = cA := Option.some.inj ((hK9.2 1 _ rfl).2.symm.trans (hK.2 0 _ rfl).2)
  rw [eA9] at hP hD
  have hP : va_P (dC, dI) vwCl [(a, .inl (cA, (L.length, .inl (atL L)))), (nq_1, .inl (cA, (7, .inl (fun _ => 0))))] H := hP
  have hD : va_D A [(a, .inl (cA, (L.length, .inl (atL L)))), (nq_1, .inl (cA, (7, .inl (fun _ => 0))))] := hD
  refine lv_dup hx hb dX2_handle_4 rfl ?_
  refine lv_iconst (v := 0) hx hb dX2_handle_5 (by decide) ?_
  refine lv_iconst (v := (-1)) hx hb dX2_handle_6 (by decide) ?_
  refine va_iast hx hb hK hP hD hS 1 0 rfl rfl (vp_in_nI (n := 0) (by omega) (by decide)) dX2_handle_7 (fun H locs hP hD hS => ?_)
  rw [show (0 : Int32).toNatClampNeg = 0 from by decide] at hP hD
  have hP : va_P (dC, dI) vwCl [(a, .inl (cA, (L.length, .inl (atL L)))), (nq_1, .inl (cA, (7, .inl (upd (fun _ => 0) 0 (-1)))))] H := hP
  have hD : va_D A [(a, .inl (cA, (L.length, .inl (atL L)))), (nq_1, .inl (cA, (7, .inl (upd (fun _ => 0) 0 (-1)))))] := hD
  refine lv_dup hx hb dX2_handle_8 rfl ?_
  refine lv_iconst (v := 1) hx hb dX2_handle_9 (by decide) ?_
  refine lv_iconst (v := (-1)) hx hb dX2_handle_10 (by decide) ?_
  refine va_iast hx hb hK hP hD hS 1 0 rfl rfl (vp_in_nI (n := 1) (by omega) (by decide)) dX2_handle_11 (fun H locs hP hD hS => ?_)
  rw [show (1 : Int32).toNatClampNeg = 1 from by decide] at hP hD
  have hP : va_P (dC, dI) vwCl [(a, .inl (cA, (L.length, .inl (atL L)))), (nq_1, .inl (cA, (7, .inl (upd (upd (fun _ => 0) 0 (-1)) 1 (-1)))))] H := hP
  have hD : va_D A [(a, .inl (cA, (L.length, .inl (atL L)))), (nq_1, .inl (cA, (7, .inl (upd (upd (fun _ => 0) 0 (-1)) 1 (-1)))))] := hD
  refine lv_dup hx hb dX2_handle_12 rfl ?_
  refine lv_iconst (v := 2) hx hb dX2_handle_13 (by decide) ?_
  refine lv_iconst (v := (-1)) hx hb dX2_handle_14 (by decide) ?_
  refine va_iast hx hb hK hP hD hS 1 0 rfl rfl (vp_in_nI (n := 2) (by omega) (by decide)) dX2_handle_15 (fun H locs hP hD hS => ?_)
  rw [show (2 : Int32).toNatClampNeg = 2 from by decide] at hP hD
  have hP : va_P (dC, dI) vwCl [(a, .inl (cA, (L.length, .inl (atL L)))), (nq_1, .inl (cA, (7, .inl (upd (upd (upd (fun _ => 0) 0 (-1)) 1 (-1)) 2 (-1)))))] H := hP
  have hD : va_D A [(a, .inl (cA, (L.length, .inl (atL L)))), (nq_1, .inl (cA, (7, .inl (upd (upd (upd (fun _ => 0) 0 (-1)) 1 (-1)) 2 (-1)))))] := hD
  refine lv_dup hx hb dX2_handle_16 rfl ?_
  refine lv_iconst (v := 3) hx hb dX2_handle_17 (by decide) ?_
  refine lv_iconst (v := (-1)) hx hb dX2_handle_18 (by decide) ?_
  refine va_iast hx hb hK hP hD hS 1 0 rfl rfl (vp_in_nI (n := 3) (by omega) (by decide)) dX2_handle_19 (fun H locs hP hD hS => ?_)
  rw [show (3 : Int32).toNatClampNeg = 3 from by decide] at hP hD
  have hP : va_P (dC, dI) vwCl [(a, .inl (cA, (L.length, .inl (atL L)))), (nq_1, .inl (cA, (7, .inl (upd (upd (upd (upd (fun _ => 0) 0 (-1)) 1 (-1)) 2 (-1)) 3 (-1)))))] H := hP
  have hD : va_D A [(a, .inl (cA, (L.length, .inl (atL L)))), (nq_1, .inl (cA, (7, .inl (upd (upd (upd (upd (fun _ => 0) 0 (-1)) 1 (-1)) 2 (-1)) 3 (-1)))))] := hD
  refine lv_dup hx hb dX2_handle_20 rfl ?_
  refine lv_iconst (v := 4) hx hb dX2_handle_21 (by decide) ?_
  refine lv_iconst (v := (-1)) hx hb dX2_handle_22 (by decide) ?_
  refine va_iast hx hb hK hP hD hS 1 0 rfl rfl (vp_in_nI (n := 4) (by omega) (by decide)) dX2_handle_23 (fun H locs hP hD hS => ?_)
  rw [show (4 : Int32).toNatClampNeg = 4 from by decide] at hP hD
  have hP : va_P (dC, dI) vwCl [(a, .inl (cA, (L.length, .inl (atL L)))), (nq_1, .inl (cA, (7, .inl (upd (upd (upd (upd (upd (fun _ => 0) 0 (-1)) 1 (-1)) 2 (-1)) 3 (-1)) 4 (-1)))))] H := hP
  have hD : va_D A [(a, .inl (cA, (L.length, .inl (atL L)))), (nq_1, .inl (cA, (7, .inl (upd (upd (upd (upd (upd (fun _ => 0) 0 (-1)) 1 (-1)) 2 (-1)) 3 (-1)) 4 (-1)))))] := hD
  refine lv_dup hx hb dX2_handle_24 rfl ?_
  refine lv_iconst (v := 5) hx hb dX2_handle_25 (by decide) ?_
  refine lv_iconst (v := (-1)) hx hb dX2_handle_26 (by decide) ?_
  refine va_iast hx hb hK hP hD hS 1 0 rfl rfl (vp_in_nI (n := 5) (by omega) (by decide)) dX2_handle_27 (fun H locs hP hD hS => ?_)
  rw [show (5 : Int32).toNatClampNeg = 5 from by decide] at hP hD
  have hP : va_P (dC, dI) vwCl [(a, .inl (cA, (L.length, .inl (atL L)))), (nq_1, .inl (cA, (7, .inl (upd (upd (upd (upd (upd (upd (fun _ => 0) 0 (-1)) 1 (-1)) 2 (-1)) 3 (-1)) 4 (-1)) 5 (-1)))))] H := hP
  have hD : va_D A [(a, .inl (cA, (L.length, .inl (atL L)))), (nq_1, .inl (cA, (7, .inl (upd (upd (upd (upd (upd (upd (fun _ => 0) 0 (-1)) 1 (-1)) 2 (-1)) 3 (-1)) 4 (-1)) 5 (-1)))))] := hD
  refine lv_dup hx hb dX2_handle_28 rfl ?_
  refine lv_bipush (v := 6) hx hb dX2_handle_29 (by decide) ?_
  refine lv_iconst (v := (-1)) hx hb dX2_handle_31 (by decide) ?_
  refine va_iast hx hb hK hP hD hS 1 0 rfl rfl (vp_in_nI (n := 6) (by omega) (by decide)) dX2_handle_32 (fun H locs hP hD hS => ?_)
  rw [show (6 : Int32).toNatClampNeg = 6 from by decide] at hP hD
  have hP : va_P (dC, dI) vwCl [(a, .inl (cA, (L.length, .inl (atL L)))), (nq_1, .inl (cA, (7, .inl (upd (upd (upd (upd (upd (upd (upd (fun _ => 0) 0 (-1)) 1 (-1)) 2 (-1)) 3 (-1)) 4 (-1)) 5 (-1)) 6 (-1)))))] H := hP
  have hD : va_D A [(a, .inl (cA, (L.length, .inl (atL L)))), (nq_1, .inl (cA, (7, .inl (upd (upd (upd (upd (upd (upd (upd (fun _ => 0) 0 (-1)) 1 (-1)) 2 (-1)) 3 (-1)) 4 (-1)) 5 (-1)) 6 (-1)))))] := hD
  refine lv_astore_n (lv' := [(1, .ref nq_1), (0, .ref a)]) hx hb dX2_handle_33 rfl hl (by decide) rfl (fun ls hl => ?_)
  refine lv_iconst (v := 0) hx hb dX2_handle_34 (by decide) ?_
  refine lv_istore_n (lv' := [(2, .int 0), (1, .ref nq_1), (0, .ref a)]) hx hb dX2_handle_35 rfl hl (by decide) rfl (fun ls hl => ?_)
  have lp36 : ∀ (d : Nat) (k : Nat) (g : Nat → Int32) (hk9 : k ≤ L.length) (hg : ∀ h, h < 7 → g h = oiI (laN L h k)), L.length - k < d → ∀ (H : Heap) (locs : List Loc), va_P (dC, dI) vwCl [(a, .inl (cA, (L.length, .inl (atL L)))), (nq_1, .inl (cA, (7, .inl g)))] H → va_D A [(a, .inl (cA, (L.length, .inl (atL L)))), (nq_1, .inl (cA, (7, .inl g)))] → va_S A s.heap H locs → ∀ ls : Array Slot, lv_has ls 5 [(2, .int (nI k)), (1, .ref nq_1), (0, .ref a)] → W p l e mt_X2_handleN_rm s m ([.ref a] : List Value).toArray below meth c H locs (0 + 1) (0 + 7) (MQ below (gQ (dC, dI) (fun u : Unit => some .null) (fun u : Unit => True) (fun u : Unit => [(a, .inl (cA, (L.length, .inl (atL L))))]) A) ([.ref a] : List Value).toArray s 2 9 A) (F0 m 36 ls []) := by
    intro d
    induction d with
    | zero => intro k g hk9 hg hd; exact absurd hd (Nat.not_lt_zero _)
    | succ d ih36 =>
      intro k g hk9 hg hd H locs hP hD hS ls hl
      refine lv_iload_n hx hb dX2_handle_36 rfl (lv_at hl 0 rfl) ?_
      refine lv_aload_n hx hb dX2_handle_37 rfl (lv_at hl 2 rfl) ?_
      refine va_alen (v := nI L.length) hx hb hK hP 0 0 rfl rfl rfl dX2_handle_38 ?_
      refine lv_icmp_ge (tgt := 103) hx hb dX2_handle_39 (by decide) (fun c39 => ?_) (fun c39 => ?_)
      · have c39 : L.length ≤ k := g_geT k L.length (by omega) (by omega) c39
        refine lv_null hx hb dX2_handle_103 ?_
        have hP := g_subP hP [0] (wc := [(a, .inl (cA, (L.length, .inl (atL L))))]) rfl
        have hD := hD.sub (ws' := [(a, .inl (cA, (L.length, .inl (atL L))))]) [0] (by decide) rfl
        exact g_endQa hx hb hr (Or.inr ⟨_, rfl⟩) (Or.inl rfl) hlocks hP hD hS dX2_handle_104 () rfl rfl trivial (by omega) (by omega)
      · have c39 : k < L.length := g_geF k L.length (by omega) (by omega) c39
        refine lv_aload_n hx hb dX2_handle_42 rfl (lv_at hl 2 rfl) ?_
        refine lv_iload_n hx hb dX2_handle_43 rfl (lv_at hl 0 rfl) ?_
        refine va_iald hx hb hK hP 0 0 rfl rfl (vp_in_nI (by omega) (by omega)) dX2_handle_44 ?_
        rw [show (nI k).toNatClampNeg = k from nI_clamp (by omega)]
        refine va_mabs hx hb (hml.trans hl.1.symm) hown (hts (.methodLink RX2 19 Lib.Math.abs.name) (List.mem_of_getElem? (i := 2) rfl)) (hts (.static Lib.Math.abs.name) (List.mem_of_getElem? (i := 3) rfl)) (hts (.initialized "java/lang/Math") (List.mem_of_getElem? (i := 4) rfl)) (hts (.code Lib.Math.abs.name Lib.Math.abs.code 1 (some .int)) (List.mem_of_getElem? (i := 5) rfl)) (Nat.le_of_ble_eq_true rfl) (Nat.le_of_ble_eq_true rfl) (by show _ ≤ 2; omega) (by show _ ≤ 9; omega) dX2_handle_45 ?_
        rw [mabs_eq]
        obtain ⟨x1, x2, x3, -⟩ := okx_h _ (okW_at hL c39)
        rw [x3]
        refine lv_istore_n (lv' := [(3, .int (nI (hN (atL L k)))), (2, .int (nI k)), (1, .ref nq_1), (0, .ref a)]) hx hb dX2_handle_48 rfl hl (by decide) rfl (fun ls hl => ?_)
        refine lv_aload_n hx hb dX2_handle_49 rfl (lv_at hl 2 rfl) ?_
        refine lv_iload_n hx hb dX2_handle_50 rfl (lv_at hl 0 rfl) ?_
        refine va_iald hx hb hK hP 1 0 rfl rfl (vp_in_nI (by omega) (by decide)) dX2_handle_51 ?_
        rw [show (nI (hN (atL L k))).toNatClampNeg = hN (atL L k) from nI_clamp (by omega)]
        rw [hg (hN (atL L k)) (by omega)]
        refine lv_istore (lv' := [(4, .int (oiI (laN L (hN (atL L k)) k))), (3, .int (nI (hN (atL L k)))), (2, .int (nI k)), (1, .ref nq_1), (0, .ref a)]) hx hb dX2_handle_52 hl (by decide) rfl (fun ls hl => ?_)
        refine lv_iload hx hb dX2_handle_54 (lv_at hl 0 rfl) ?_
        refine lv_if_lt (tgt := 93) hx hb dX2_handle_56 (by decide) (fun c56 => ?_) (fun c56 => ?_)
        · have c56 : laN L (hN (atL L k)) k = none := oiI_lt0 (laN_small (by omega)) c56
          have hno : bg L k = none := bg_no1 hL c39 c56
          refine lv_aload_n hx hb dX2_handle_93 rfl (lv_at hl 3 rfl) ?_
          refine lv_iload_n hx hb dX2_handle_94 rfl (lv_at hl 1 rfl) ?_
          refine lv_iload_n hx hb dX2_handle_95 rfl (lv_at hl 2 rfl) ?_
          refine va_iast hx hb hK hP hD hS 1 0 rfl rfl (vp_in_nI (by omega) (by decide)) dX2_handle_96 (fun H locs hP hD hS => ?_)
          rw [show (nI (hN (atL L k))).toNatClampNeg = hN (atL L k) from nI_clamp (by omega)] at hP hD
          have hP : va_P (dC, dI) vwCl [(a, .inl (cA, (L.length, .inl (atL L)))), (nq_1, .inl (cA, (7, .inl (upd g (hN (atL L k)) (nI k)))))] H := hP
          have hD : va_D A [(a, .inl (cA, (L.length, .inl (atL L)))), (nq_1, .inl (cA, (7, .inl (upd g (hN (atL L k)) (nI k)))))] := hD
          refine lv_iinc (v := nI (k + 1)) (lv' := [(2, .int (nI (k + 1))), (4, .int (oiI (laN L (hN (atL L k)) k))), (3, .int (nI (hN (atL L k)))), (1, .ref nq_1), (0, .ref a)]) hx hb dX2_handle_97 hl (k := 2) rfl (g_inc _) (by decide) rfl (fun ls hl => ?_)
          refine lv_goto (tgt := 36) hx hb dX2_handle_100 (by decide) ?_
          exact ih36 (k + 1) (upd g (hN (atL L k)) (nI k)) (by omega) (la_step hg) (by omega) _ _ hP hD hS _ (lv_sub hl [0, 3, 4] rfl)
        · obtain ⟨fr, c56⟩ := oiI_ge0 c56
          have hfr := laN_lt c56
          rw [show oiI (laN L (hN (atL L k)) k) = nI fr from by rw [c56]; rfl] at hl
          refine lv_aload_n hx hb dX2_handle_59 rfl (lv_at hl 4 rfl) ?_
          refine lv_iload hx hb dX2_handle_60 (lv_at hl 0 rfl) ?_
          refine va_iald hx hb hK hP 0 0 rfl rfl (vp_in_nI (by omega) (by omega)) dX2_handle_62 ?_
          rw [show (nI fr).toNatClampNeg = fr from nI_clamp (by omega)]
          refine lv_aload_n hx hb dX2_handle_63 rfl (lv_at hl 4 rfl) ?_
          refine lv_iload_n hx hb dX2_handle_64 rfl (lv_at hl 2 rfl) ?_
          refine va_iald hx hb hK hP 0 0 rfl rfl (vp_in_nI (by omega) (by omega)) dX2_handle_65 ?_
          rw [show (nI k).toNatClampNeg = k from nI_clamp (by omega)]
          refine lv_iadd hx hb dX2_handle_66 ?_
          refine lv_if_ne (tgt := 93) hx hb dX2_handle_67 (by decide) (fun c67 => ?_) (fun c67 => ?_)
          · have c67 : ¬ atL L fr = -atL L k := fun q => c67 (neg_add0 q)
            have hno : bg L k = none := bg_no2 hL c39 c56 c67
            refine lv_aload_n hx hb dX2_handle_93 rfl (lv_at hl 3 rfl) ?_
            refine lv_iload_n hx hb dX2_handle_94 rfl (lv_at hl 1 rfl) ?_
            refine lv_iload_n hx hb dX2_handle_95 rfl (lv_at hl 2 rfl) ?_
            refine va_iast hx hb hK hP hD hS 1 0 rfl rfl (vp_in_nI (by omega) (by decide)) dX2_handle_96 (fun H locs hP hD hS => ?_)
            rw [show (nI (hN (atL L k))).toNatClampNeg = hN (atL L k) from nI_clamp (by omega)] at hP hD
            have hP : va_P (dC, dI) vwCl [(a, .inl (cA, (L.length, .inl (atL L)))), (nq_1, .inl (cA, (7, .inl (upd g (hN (atL L k)) (nI k)))))] H := hP
            have hD : va_D A [(a, .inl (cA, (L.length, .inl (atL L)))), (nq_1, .inl (cA, (7, .inl (upd g (hN (atL L k)) (nI k)))))] := hD
            refine lv_iinc (v := nI (k + 1)) (lv' := [(2, .int (nI (k + 1))), (4, .int (nI fr)), (3, .int (nI (hN (atL L k)))), (1, .ref nq_1), (0, .ref a)]) hx hb dX2_handle_97 hl (k := 2) rfl (g_inc _) (by decide) rfl (fun ls hl => ?_)
            refine lv_goto (tgt := 36) hx hb dX2_handle_100 (by decide) ?_
            exact ih36 (k + 1) (upd g (hN (atL L k)) (nI k)) (by omega) (la_step hg) (by omega) _ _ hP hD hS _ (lv_sub hl [0, 3, 4] rfl)
          · have c67 : atL L fr = -atL L k := add0_neg c67
            refine lv_aload_n hx hb dX2_handle_70 rfl (lv_at hl 3 rfl) ?_
            refine lv_iload_n hx hb dX2_handle_71 rfl (lv_at hl 1 rfl) ?_
            refine lv_iconst (v := 1) hx hb dX2_handle_72 (by decide) ?_
            refine lv_isub hx hb dX2_handle_73 ?_
            rw [show (nI (hN (atL L k))) - 1 = nI (hN (atL L k) - 1) from pk_sub (a := hN (atL L k)) (b := 1) x1]
            refine va_iald hx hb hK hP 1 0 rfl rfl (vp_in_nI (by omega) (by decide)) dX2_handle_74 ?_
            rw [show (nI (hN (atL L k) - 1)).toNatClampNeg = hN (atL L k) - 1 from nI_clamp (by omega)]
            rw [hg (hN (atL L k) - 1) (by omega)]
            refine lv_iload hx hb dX2_handle_75 (lv_at hl 0 rfl) ?_
            refine lv_icmp_ge (tgt := 93) hx hb dX2_handle_77 (by decide) (fun c77 => ?_) (fun c77 => ?_)
            · have hno : bg L k = none := bg_no3 hL c39 c56 (oiI_geS (by omega) (laN_small (by omega)) c77)
              refine lv_aload_n hx hb dX2_handle_93 rfl (lv_at hl 3 rfl) ?_
              refine lv_iload_n hx hb dX2_handle_94 rfl (lv_at hl 1 rfl) ?_
              refine lv_iload_n hx hb dX2_handle_95 rfl (lv_at hl 2 rfl) ?_
              refine va_iast hx hb hK hP hD hS 1 0 rfl rfl (vp_in_nI (by omega) (by decide)) dX2_handle_96 (fun H locs hP hD hS => ?_)
              rw [show (nI (hN (atL L k))).toNatClampNeg = hN (atL L k) from nI_clamp (by omega)] at hP hD
              have hP : va_P (dC, dI) vwCl [(a, .inl (cA, (L.length, .inl (atL L)))), (nq_1, .inl (cA, (7, .inl (upd g (hN (atL L k)) (nI k)))))] H := hP
              have hD : va_D A [(a, .inl (cA, (L.length, .inl (atL L)))), (nq_1, .inl (cA, (7, .inl (upd g (hN (atL L k)) (nI k)))))] := hD
              refine lv_iinc (v := nI (k + 1)) (lv' := [(2, .int (nI (k + 1))), (4, .int (nI fr)), (3, .int (nI (hN (atL L k)))), (1, .ref nq_1), (0, .ref a)]) hx hb dX2_handle_97 hl (k := 2) rfl (g_inc _) (by decide) rfl (fun ls hl => ?_)
              refine lv_goto (tgt := 36) hx hb dX2_handle_100 (by decide) ?_
              exact ih36 (k + 1) (upd g (hN (atL L k)) (nI k)) (by omega) (la_step hg) (by omega) _ _ hP hD hS _ (lv_sub hl [0, 3, 4] rfl)
            · exact absurd ((enF_all hn c39).symm.trans (bg_la hL c39 c56 c67 (oiI_geF (by omega) (laN_small (by omega)) c77))) (fun q => nomatch q)
  exact lp36 ((L.length - 0) + 1) 0 (upd (upd (upd (upd (upd (upd (upd (fun _ => 0) 0 (-1)) 1 (-1)) 2 (-1)) 3 (-1)) 4 (-1)) 5 (-1)) 6 (-1)) (Nat.zero_le _) (fun h hh => by rcases (show h = 0 ∨ h = 1 ∨ h = 2 ∨ h = 3 ∨ h = 4 ∨ h = 5 ∨ h = 6 by omega) with rfl | rfl | rfl | rfl | rfl | rfl | rfl <;> rfl) (Nat.lt_succ_self _) _ _ hP hD hS _ (lv_sub hl [0, 1, 2] rfl)

abbrev mt_X2_handleS_rm : Room := { frames := 1, cells := 2, slots := 9, locals := 21 }
set_option maxHeartbeats 4000000 in
set_option maxRecDepth 100000 in
/-- Sim.handle, where there is one -/
theorem mt_X2_handleS (l : Launch) (dC : Nat → ClassId) (dI : Nat → Nat → Nat) (cA : ClassId) (sz : Nat) (a : Nat) (L : List Int32) (b9 : Nat) (e9 : Nat) (hL : okW L) (hl1 : L.length ≤ 1000) (he : enF L 0 = some e9) (hbg : bg L e9 = some b9) : Met l yX2_handle wsX2_handle mt_X2_handleS_rm (va_Pc [.ref a] (gBX xT (dC, dI) [(cA, .int)] [(a, .inl (cA, (L.length, .inl (atL L))))] sz)) (gQ (dC, dI) (fun u : Nat => some (.ref u)) (fun u : Nat => True) (fun u : Nat => [(a, .inl (cA, (L.length, .inl (atL L)))), (u, .inl (cA, ([nI b9, nI e9].length, .inl (atL [nI b9, nI e9]))))]) (va_A [(a, .inl (cA, (L.length, .inl (atL L))))] sz)) 2 9 (va_A [(a, .inl (cA, (L.length, .inl (atL L))))] sz) := by
  refine g_ofQ (cc := cX2_handle) (maxL := 5) (ret := (some (.array .int))) (by decide) rfl (Nat.le_of_ble_eq_true rfl) (fun p e s m below meth c ls hx hb hr hml hts hown hlocks hP hK hl hin A hA hD hS hXX => ?_)
  have hl : lv_has ls 5 [(0, .ref a)] := hl
  obtain ⟨-, he2, -, -⟩ := enF_spec he
  refine lv_bipush (v := 7) hx hb dX2_handle_0 (by decide) ?_
  refine va_newa (atype := .int) (ty := .int) (a0 := (7, .inl (fun _ => 0))) (N' := 7) hx hb (hts (.arrayClass .int) (List.mem_of_getElem? (i := 1) rfl)) rfl hK hP hD hS hA (fun _ => rfl) (by decide) (by decide) (by decide) (by show _ ≤ 2; omega) (by show _ ≤ 9; omega) dX2_handle_2 (fun nq_1 cA_2 H hK9 hP hD hS => ?_)
  have eA9 : cA_2 = cA := Option.some.inj ((hK9.2 1 _ rfl).2.symm.trans (hK.2 0 _ rfl).2)
  rw [eA9] at hP hD
  have hP : va_P (dC, dI) vwCl [(a, .inl (cA, (L.length, .inl (atL L)))), (nq_1, .inl (cA, (7, .inl (fun _ => 0))))] H := hP
  have hD : va_D A [(a, .inl (cA, (L.length, .inl (atL L)))), (nq_1, .inl (cA, (7, .inl (fun _ => 0))))] := hD
  refine lv_dup hx hb dX2_handle_4 rfl ?_
  refine lv_iconst (v := 0) hx hb dX2_handle_5 (by decide) ?_
  refine lv_iconst (v := (-1)) hx hb dX2_handle_6 (by decide) ?_
  refine va_iast hx hb hK hP hD hS 1 0 rfl rfl (vp_in_nI (n := 0) (by omega) (by decide)) dX2_handle_7 (fun H locs hP hD hS => ?_)
  rw [show (0 : Int32).toNatClampNeg = 0 from by decide] at hP hD
  have hP : va_P (dC, dI) vwCl [(a, .inl (cA, (L.length, .inl (atL L)))), (nq_1, .inl (cA, (7, .inl (upd (fun _ => 0) 0 (-1)))))] H := hP
  have hD : va_D A [(a, .inl (cA, (L.length, .inl (atL L)))), (nq_1, .inl (cA, (7, .inl (upd (fun _ => 0) 0 (-1)))))] := hD
  refine lv_dup hx hb dX2_handle_8 rfl ?_
  refine lv_iconst (v := 1) hx hb dX2_handle_9 (by decide) ?_
  refine lv_iconst (v := (-1)) hx hb dX2_handle_10 (by decide) ?_
  refine va_iast hx hb hK hP hD hS 1 0 rfl rfl (vp_in_nI (n := 1) (by omega) (by decide)) dX2_handle_11 (fun H locs hP hD hS => ?_)
  rw [show (1 : Int32).toNatClampNeg = 1 from by decide] at hP hD
  have hP : va_P (dC, dI) vwCl [(a, .inl (cA, (L.length, .inl (atL L)))), (nq_1, .inl (cA, (7, .inl (upd (upd (fun _ => 0) 0 (-1)) 1 (-1)))))] H := hP
  have hD : va_D A [(a, .inl (cA, (L.length, .inl (atL L)))), (nq_1, .inl (cA, (7, .inl (upd (upd (fun _ => 0) 0 (-1)) 1 (-1)))))] := hD
  refine lv_dup hx hb dX2_handle_12 rfl ?_
  refine lv_iconst (v := 2) hx hb dX2_handle_13 (by decide) ?_
  refine lv_iconst (v := (-1)) hx hb dX2_handle_14 (by decide) ?_
  refine va_iast hx hb hK hP hD hS 1 0 rfl rfl (vp_in_nI (n := 2) (by omega) (by decide)) dX2_handle_15 (fun H locs hP hD hS => ?_)
  rw [show (2 : Int32).toNatClampNeg = 2 from by decide] at hP hD
  have hP : va_P (dC, dI) vwCl [(a, .inl (cA, (L.length, .inl (atL L)))), (nq_1, .inl (cA, (7, .inl (upd (upd (upd (fun _ => 0) 0 (-1)) 1 (-1)) 2 (-1)))))] H := hP
  have hD : va_D A [(a, .inl (cA, (L.length, .inl (atL L)))), (nq_1, .inl (cA, (7, .inl (upd (upd (upd (fun _ => 0) 0 (-1)) 1 (-1)) 2 (-1)))))] := hD
  refine lv_dup hx hb dX2_handle_16 rfl ?_
  refine lv_iconst (v := 3) hx hb dX2_handle_17 (by decide) ?_
  refine lv_iconst (v := (-1)) hx hb dX2_handle_18 (by decide) ?_
  refine va_iast hx hb hK hP hD hS 1 0 rfl rfl (vp_in_nI (n := 3) (by omega) (by decide)) dX2_handle_19 (fun H locs hP hD hS => ?_)
  rw [show (3 : Int32).toNatClampNeg = 3 from by decide] at hP hD
  have hP : va_P (dC, dI) vwCl [(a, .inl (cA, (L.length, .inl (atL L)))), (nq_1, .inl (cA, (7, .inl (upd (upd (upd (upd (fun _ => 0) 0 (-1)) 1 (-1)) 2 (-1)) 3 (-1)))))] H := hP
  have hD : va_D A [(a, .inl (cA, (L.length, .inl (atL L)))), (nq_1, .inl (cA, (7, .inl (upd (upd (upd (upd (fun _ => 0) 0 (-1)) 1 (-1)) 2 (-1)) 3 (-1)))))] := hD
  refine lv_dup hx hb dX2_handle_20 rfl ?_
  refine lv_iconst (v := 4) hx hb dX2_handle_21 (by decide) ?_
  refine lv_iconst (v := (-1)) hx hb dX2_handle_22 (by decide) ?_
  refine va_iast hx hb hK hP hD hS 1 0 rfl rfl (vp_in_nI (n := 4) (by omega) (by decide)) dX2_handle_23 (fun H locs hP hD hS => ?_)
  rw [show (4 : Int32).toNatClampNeg = 4 from by decide] at hP hD
  have hP : va_P (dC, dI) vwCl [(a, .inl (cA, (L.length, .inl (atL L)))), (nq_1, .inl (cA, (7, .inl (upd (upd (upd (upd (upd (fun _ => 0) 0 (-1)) 1 (-1)) 2 (-1)) 3 (-1)) 4 (-1)))))] H := hP
  have hD : va_D A [(a, .inl (cA, (L.length, .inl (atL L)))), (nq_1, .inl (cA, (7, .inl (upd (upd (upd (upd (upd (fun _ => 0) 0 (-1)) 1 (-1)) 2 (-1)) 3 (-1)) 4 (-1)))))] := hD
  refine lv_dup hx hb dX2_handle_24 rfl ?_
  refine lv_iconst (v := 5) hx hb dX2_handle_25 (by decide) ?_
  refine lv_iconst (v := (-1)) hx hb dX2_handle_26 (by decide) ?_
  refine va_iast hx hb hK hP hD hS 1 0 rfl rfl (vp_in_nI (n := 5) (by omega) (by decide)) dX2_handle_27 (fun H locs hP hD hS => ?_)
  rw [show (5 : Int32).toNatClampNeg = 5 from by decide] at hP hD
  have hP : va_P (dC, dI) vwCl [(a, .inl (cA, (L.length, .inl (atL L)))), (nq_1, .inl (cA, (7, .inl (upd (upd (upd (upd (upd (upd (fun _ => 0) 0 (-1)) 1 (-1)) 2 (-1)) 3 (-1)) 4 (-1)) 5 (-1)))))] H := hP
  have hD : va_D A [(a, .inl (cA, (L.length, .inl (atL L)))), (nq_1, .inl (cA, (7, .inl (upd (upd (upd (upd (upd (upd (fun _ => 0) 0 (-1)) 1 (-1)) 2 (-1)) 3 (-1)) 4 (-1)) 5 (-1)))))] := hD
  refine lv_dup hx hb dX2_handle_28 rfl ?_
  refine lv_bipush (v := 6) hx hb dX2_handle_29 (by decide) ?_
  refine lv_iconst (v := (-1)) hx hb dX2_handle_31 (by decide) ?_
  refine va_iast hx hb hK hP hD hS 1 0 rfl rfl (vp_in_nI (n := 6) (by omega) (by decide)) dX2_handle_32 (fun H locs hP hD hS => ?_)
  rw [show (6 : Int32).toNatClampNeg = 6 from by decide] at hP hD
  have hP : va_P (dC, dI) vwCl [(a, .inl (cA, (L.length, .inl (atL L)))), (nq_1, .inl (cA, (7, .inl (upd (upd (upd (upd (upd (upd (upd (fun _ => 0) 0 (-1)) 1 (-1)) 2 (-1)) 3 (-1)) 4 (-1)) 5 (-1)) 6 (-1)))))] H := hP
  have hD : va_D A [(a, .inl (cA, (L.length, .inl (atL L)))), (nq_1, .inl (cA, (7, .inl (upd (upd (upd (upd (upd (upd (upd (fun _ => 0) 0 (-1)) 1 (-1)) 2 (-1)) 3 (-1)) 4 (-1)) 5 (-1)) 6 (-1)))))] := hD
  refine lv_astore_n (lv' := [(1, .ref nq_1), (0, .ref a)]) hx hb dX2_handle_33 rfl hl (by decide) rfl (fun ls hl => ?_)
  refine lv_iconst (v := 0) hx hb dX2_handle_34 (by decide) ?_
  refine lv_istore_n (lv' := [(2, .int 0), (1, .ref nq_1), (0, .ref a)]) hx hb dX2_handle_35 rfl hl (by decide) rfl (fun ls hl => ?_)
  have lp36 : ∀ (d : Nat) (k : Nat) (g : Nat → Int32) (hk9 : k ≤ e9) (hg : ∀ h, h < 7 → g h = oiI (laN L h k)), L.length - k < d → ∀ (H : Heap) (locs : List Loc), va_P (dC, dI) vwCl [(a, .inl (cA, (L.length, .inl (atL L)))), (nq_1, .inl (cA, (7, .inl g)))] H → va_D A [(a, .inl (cA, (L.length, .inl (atL L)))), (nq_1, .inl (cA, (7, .inl g)))] → va_S A s.heap H locs → ∀ ls : Array Slot, lv_has ls 5 [(2, .int (nI k)), (1, .ref nq_1), (0, .ref a)] → W p l e mt_X2_handleS_rm s m ([.ref a] : List Value).toArray below meth c H locs (0 + 1) (0 + 7) (MQ below (gQ (dC, dI) (fun u : Nat => some (.ref u)) (fun u : Nat => True) (fun u : Nat => [(a, .inl (cA, (L.length, .inl (atL L)))), (u, .inl (cA, ([nI b9, nI e9].length, .inl (atL [nI b9, nI e9]))))]) A) ([.ref a] : List Value).toArray s 2 9 A) (F0 m 36 ls []) := by
    intro d
    induction d with
    | zero => intro k g hk9 hg hd; exact absurd hd (Nat.not_lt_zero _)
    | succ d ih36 =>
      intro k g hk9 hg hd H locs hP hD hS ls hl
      refine lv_iload_n hx hb dX2_handle_36 rfl (lv_at hl 0 rfl) ?_
      refine lv_aload_n hx hb dX2_handle_37 rfl (lv_at hl 2 rfl) ?_
      refine va_alen (v := nI L.length) hx hb hK hP 0 0 rfl rfl rfl dX2_handle_38 ?_
      refine lv_icmp_ge (tgt := 103) hx hb dX2_handle_39 (by decide) (fun c39 => ?_) (fun c39 => ?_)
      · exact absurd (g_geT k L.length (by omega) (by omega) c39) (by omega)
      · have c39 : k < L.length := g_geF k L.length (by omega) (by omega) c39
        refine lv_aload_n hx hb dX2_handle_42 rfl (lv_at hl 2 rfl) ?_
        refine lv_iload_n hx hb dX2_handle_43 rfl (lv_at hl 0 rfl) ?_
        refine va_iald hx hb hK hP 0 0 rfl rfl (vp_in_nI (by omega) (by omega)) dX2_handle_44 ?_
        rw [show (nI k).toNatClampNeg = k from nI_clamp (by omega)]
        refine va_mabs hx hb (hml.trans hl.1.symm) hown (hts (.methodLink RX2 19 Lib.Math.abs.name) (List.mem_of_getElem? (i := 2) rfl)) (hts (.static Lib.Math.abs.name) (List.mem_of_getElem? (i := 3) rfl)) (hts (.initialized "java/lang/Math") (List.mem_of_getElem? (i := 4) rfl)) (hts (.code Lib.Math.abs.name Lib.Math.abs.code 1 (some .int)) (List.mem_of_getElem? (i := 5) rfl)) (Nat.le_of_ble_eq_true rfl) (Nat.le_of_ble_eq_true rfl) (by show _ ≤ 2; omega) (by show _ ≤ 9; omega) dX2_handle_45 ?_
        rw [mabs_eq]
        obtain ⟨x1, x2, x3, -⟩ := okx_h _ (okW_at hL c39)
        rw [x3]
        refine lv_istore_n (lv' := [(3, .int (nI (hN (atL L k)))), (2, .int (nI k)), (1, .ref nq_1), (0, .ref a)]) hx hb dX2_handle_48 rfl hl (by decide) rfl (fun ls hl => ?_)
        refine lv_aload_n hx hb dX2_handle_49 rfl (lv_at hl 2 rfl) ?_
        refine lv_iload_n hx hb dX2_handle_50 rfl (lv_at hl 0 rfl) ?_
        refine va_iald hx hb hK hP 1 0 rfl rfl (vp_in_nI (by omega) (by decide)) dX2_handle_51 ?_
        rw [show (nI (hN (atL L k))).toNatClampNeg = hN (atL L k) from nI_clamp (by omega)]
        rw [hg (hN (atL L k)) (by omega)]
        refine lv_istore (lv' := [(4, .int (oiI (laN L (hN (atL L k)) k))), (3, .int (nI (hN (atL L k)))), (2, .int (nI k)), (1, .ref nq_1), (0, .ref a)]) hx hb dX2_handle_52 hl (by decide) rfl (fun ls hl => ?_)
        refine lv_iload hx hb dX2_handle_54 (lv_at hl 0 rfl) ?_
        refine lv_if_lt (tgt := 93) hx hb dX2_handle_56 (by decide) (fun c56 => ?_) (fun c56 => ?_)
        · have c56 : laN L (hN (atL L k)) k = none := oiI_lt0 (laN_small (by omega)) c56
          have hno : bg L k = none := bg_no1 hL c39 c56
          refine lv_aload_n hx hb dX2_handle_93 rfl (lv_at hl 3 rfl) ?_
          refine lv_iload_n hx hb dX2_handle_94 rfl (lv_at hl 1 rfl) ?_
          refine lv_iload_n hx hb dX2_handle_95 rfl (lv_at hl 2 rfl) ?_
          refine va_iast hx hb hK hP hD hS 1 0 rfl rfl (vp_in_nI (by omega) (by decide)) dX2_handle_96 (fun H locs hP hD hS => ?_)
          rw [show (nI (hN (atL L k))).toNatClampNeg = hN (atL L k) from nI_clamp (by omega)] at hP hD
          have hP : va_P (dC, dI) vwCl [(a, .inl (cA, (L.length, .inl (atL L)))), (nq_1, .inl (cA, (7, .inl (upd g (hN (atL L k)) (nI k)))))] H := hP
          have hD : va_D A [(a, .inl (cA, (L.length, .inl (atL L)))), (nq_1, .inl (cA, (7, .inl (upd g (hN (atL L k)) (nI k)))))] := hD
          refine lv_iinc (v := nI (k + 1)) (lv' := [(2, .int (nI (k + 1))), (4, .int (oiI (laN L (hN (atL L k)) k))), (3, .int (nI (hN (atL L k)))), (1, .ref nq_1), (0, .ref a)]) hx hb dX2_handle_97 hl (k := 2) rfl (g_inc _) (by decide) rfl (fun ls hl => ?_)
          refine lv_goto (tgt := 36) hx hb dX2_handle_100 (by decide) ?_
          exact ih36 (k + 1) (upd g (hN (atL L k)) (nI k)) (Nat.lt_of_le_of_ne hk9 (fun q => by rw [q, hbg] at hno; cases hno)) (la_step hg) (by omega) _ _ hP hD hS _ (lv_sub hl [0, 3, 4] rfl)
        · obtain ⟨fr, c56⟩ := oiI_ge0 c56
          have hfr := laN_lt c56
          rw [show oiI (laN L (hN (atL L k)) k) = nI fr from by rw [c56]; rfl] at hl
          refine lv_aload_n hx hb dX2_handle_59 rfl (lv_at hl 4 rfl) ?_
          refine lv_iload hx hb dX2_handle_60 (lv_at hl 0 rfl) ?_
          refine va_iald hx hb hK hP 0 0 rfl rfl (vp_in_nI (by omega) (by omega)) dX2_handle_62 ?_
          rw [show (nI fr).toNatClampNeg = fr from nI_clamp (by omega)]
          refine lv_aload_n hx hb dX2_handle_63 rfl (lv_at hl 4 rfl) ?_
          refine lv_iload_n hx hb dX2_handle_64 rfl (lv_at hl 2 rfl) ?_
          refine va_iald hx hb hK hP 0 0 rfl rfl (vp_in_nI (by omega) (by omega)) dX2_handle_65 ?_
          rw [show (nI k).toNatClampNeg = k from nI_clamp (by omega)]
          refine lv_iadd hx hb dX2_handle_66 ?_
          refine lv_if_ne (tgt := 93) hx hb dX2_handle_67 (by decide) (fun c67 => ?_) (fun c67 => ?_)
          · have c67 : ¬ atL L fr = -atL L k := fun q => c67 (neg_add0 q)
            have hno : bg L k = none := bg_no2 hL c39 c56 c67
            refine lv_aload_n hx hb dX2_handle_93 rfl (lv_at hl 3 rfl) ?_
            refine lv_iload_n hx hb dX2_handle_94 rfl (lv_at hl 1 rfl) ?_
            refine lv_iload_n hx hb dX2_handle_95 rfl (lv_at hl 2 rfl) ?_
            refine va_iast hx hb hK hP hD hS 1 0 rfl rfl (vp_in_nI (by omega) (by decide)) dX2_handle_96 (fun H locs hP hD hS => ?_)
            rw [show (nI (hN (atL L k))).toNatClampNeg = hN (atL L k) from nI_clamp (by omega)] at hP hD
            have hP : va_P (dC, dI) vwCl [(a, .inl (cA, (L.length, .inl (atL L)))), (nq_1, .inl (cA, (7, .inl (upd g (hN (atL L k)) (nI k)))))] H := hP
            have hD : va_D A [(a, .inl (cA, (L.length, .inl (atL L)))), (nq_1, .inl (cA, (7, .inl (upd g (hN (atL L k)) (nI k)))))] := hD
            refine lv_iinc (v := nI (k + 1)) (lv' := [(2, .int (nI (k + 1))), (4, .int (nI fr)), (3, .int (nI (hN (atL L k)))), (1, .ref nq_1), (0, .ref a)]) hx hb dX2_handle_97 hl (k := 2) rfl (g_inc _) (by decide) rfl (fun ls hl => ?_)
            refine lv_goto (tgt := 36) hx hb dX2_handle_100 (by decide) ?_
            exact ih36 (k + 1) (upd g (hN (atL L k)) (nI k)) (Nat.lt_of_le_of_ne hk9 (fun q => by rw [q, hbg] at hno; cases hno)) (la_step hg) (by omega) _ _ hP hD hS _ (lv_sub hl [0, 3, 4] rfl)
          · have c67 : atL L fr = -atL L k := add0_neg c67
            refine lv_aload_n hx hb dX2_handle_70 rfl (lv_at hl 3 rfl) ?_
            refine lv_iload_n hx hb dX2_handle_71 rfl (lv_at hl 1 rfl) ?_
            refine lv_iconst (v := 1) hx hb dX2_handle_72 (by decide) ?_
            refine lv_isub hx hb dX2_handle_73 ?_
            rw [show (nI (hN (atL L k))) - 1 = nI (hN (atL L k) - 1) from pk_sub (a := hN (atL L k)) (b := 1) x1]
            refine va_iald hx hb hK hP 1 0 rfl rfl (vp_in_nI (by omega) (by decide)) dX2_handle_74 ?_
            rw [show (nI (hN (atL L k) - 1)).toNatClampNeg = hN (atL L k) - 1 from nI_clamp (by omega)]
            rw [hg (hN (atL L k) - 1) (by omega)]
            refine lv_iload hx hb dX2_handle_75 (lv_at hl 0 rfl) ?_
            refine lv_icmp_ge (tgt := 93) hx hb dX2_handle_77 (by decide) (fun c77 => ?_) (fun c77 => ?_)
            · have hno : bg L k = none := bg_no3 hL c39 c56 (oiI_geS (by omega) (laN_small (by omega)) c77)
              refine lv_aload_n hx hb dX2_handle_93 rfl (lv_at hl 3 rfl) ?_
              refine lv_iload_n hx hb dX2_handle_94 rfl (lv_at hl 1 rfl) ?_
              refine lv_iload_n hx hb dX2_handle_95 rfl (lv_at hl 2 rfl) ?_
              refine va_iast hx hb hK hP hD hS 1 0 rfl rfl (vp_in_nI (by omega) (by decide)) dX2_handle_96 (fun H locs hP hD hS => ?_)
              rw [show (nI (hN (atL L k))).toNatClampNeg = hN (atL L k) from nI_clamp (by omega)] at hP hD
              have hP : va_P (dC, dI) vwCl [(a, .inl (cA, (L.length, .inl (atL L)))), (nq_1, .inl (cA, (7, .inl (upd g (hN (atL L k)) (nI k)))))] H := hP
              have hD : va_D A [(a, .inl (cA, (L.length, .inl (atL L)))), (nq_1, .inl (cA, (7, .inl (upd g (hN (atL L k)) (nI k)))))] := hD
              refine lv_iinc (v := nI (k + 1)) (lv' := [(2, .int (nI (k + 1))), (4, .int (nI fr)), (3, .int (nI (hN (atL L k)))), (1, .ref nq_1), (0, .ref a)]) hx hb dX2_handle_97 hl (k := 2) rfl (g_inc _) (by decide) rfl (fun ls hl => ?_)
              refine lv_goto (tgt := 36) hx hb dX2_handle_100 (by decide) ?_
              exact ih36 (k + 1) (upd g (hN (atL L k)) (nI k)) (Nat.lt_of_le_of_ne hk9 (fun q => by rw [q, hbg] at hno; cases hno)) (la_step hg) (by omega) _ _ hP hD hS _ (lv_sub hl [0, 3, 4] rfl)
            · have hyes : bg L k = some fr := bg_la hL c39 c56 c67 (oiI_geF (by omega) (laN_small (by omega)) c77)
              have hke : k = e9 := by
                rcases Nat.lt_or_eq_of_le hk9 with q | q
                · rw [(enF_spec he).2.2.2 k (Nat.zero_le _) q] at hyes; cases hyes
                · exact q
              have hfb : fr = b9 := by rw [hke, hbg] at hyes; exact (Option.some.inj hyes).symm
              refine lv_iconst (v := 2) hx hb dX2_handle_80 (by decide) ?_
              refine va_newa (atype := .int) (ty := .int) (a0 := (2, .inl (fun _ => 0))) (N' := 2) hx hb (hts (.arrayClass .int) (List.mem_of_getElem? (i := 1) rfl)) rfl hK hP hD hS hA (fun _ => rfl) (by decide) (by decide) (by decide) (by show _ ≤ 2; omega) (by show _ ≤ 9; omega) dX2_handle_81 (fun nq_3 cA_4 H hK9 hP hD hS => ?_)
              have eA9 : cA_4 = cA := Option.some.inj ((hK9.2 1 _ rfl).2.symm.trans (hK.2 0 _ rfl).2)
              rw [eA9] at hP hD
              have hP : va_P (dC, dI) vwCl [(a, .inl (cA, (L.length, .inl (atL L)))), (nq_1, .inl (cA, (7, .inl g))), (nq_3, .inl (cA, (2, .inl (fun _ => 0))))] H := hP
              have hD : va_D A [(a, .inl (cA, (L.length, .inl (atL L)))), (nq_1, .inl (cA, (7, .inl g))), (nq_3, .inl (cA, (2, .inl (fun _ => 0))))] := hD
              refine lv_dup hx hb dX2_handle_83 rfl ?_
              refine lv_iconst (v := 0) hx hb dX2_handle_84 (by decide) ?_
              refine lv_iload hx hb dX2_handle_85 (lv_at hl 0 rfl) ?_
              refine va_iast hx hb hK hP hD hS 2 0 rfl rfl (vp_in_nI (n := 0) (by omega) (by decide)) dX2_handle_87 (fun H locs hP hD hS => ?_)
              rw [show (0 : Int32).toNatClampNeg = 0 from by decide] at hP hD
              have hP : va_P (dC, dI) vwCl [(a, .inl (cA, (L.length, .inl (atL L)))), (nq_1, .inl (cA, (7, .inl g))), (nq_3, .inl (cA, (2, .inl (upd (fun _ => 0) 0 (nI fr)))))] H := hP
              have hD : va_D A [(a, .inl (cA, (L.length, .inl (atL L)))), (nq_1, .inl (cA, (7, .inl g))), (nq_3, .inl (cA, (2, .inl (upd (fun _ => 0) 0 (nI fr)))))] := hD
              refine lv_dup hx hb dX2_handle_88 rfl ?_
              refine lv_iconst (v := 1) hx hb dX2_handle_89 (by decide) ?_
              refine lv_iload_n hx hb dX2_handle_90 rfl (lv_at hl 2 rfl) ?_
              refine va_iast hx hb hK hP hD hS 2 0 rfl rfl (vp_in_nI (n := 1) (by omega) (by decide)) dX2_handle_91 (fun H locs hP hD hS => ?_)
              rw [show (1 : Int32).toNatClampNeg = 1 from by decide] at hP hD
              have hP : va_P (dC, dI) vwCl [(a, .inl (cA, (L.length, .inl (atL L)))), (nq_1, .inl (cA, (7, .inl g))), (nq_3, .inl (cA, (2, .inl (upd (upd (fun _ => 0) 0 (nI fr)) 1 (nI k)))))] H := hP
              have hD : va_D A [(a, .inl (cA, (L.length, .inl (atL L)))), (nq_1, .inl (cA, (7, .inl g))), (nq_3, .inl (cA, (2, .inl (upd (upd (fun _ => 0) 0 (nI fr)) 1 (nI k)))))] := hD
              have hP := va_canon hP 2 rfl [nI b9, nI e9] rfl (fun j hj => by rcases (show j = 0 ∨ j = 1 from by simp at hj; omega) with rfl | rfl <;> first | (rw [hfb]; rfl) | (rw [hke]; rfl))
              have hD := va_canonD hD 2 rfl [nI b9, nI e9] (cA := cA)
              have hP : va_P (dC, dI) vwCl [(a, .inl (cA, (L.length, .inl (atL L)))), (nq_1, .inl (cA, (7, .inl g))), (nq_3, .inl (cA, ([nI b9, nI e9].length, .inl (atL [nI b9, nI e9]))))] H := hP
              have hD : va_D A [(a, .inl (cA, (L.length, .inl (atL L)))), (nq_1, .inl (cA, (7, .inl g))), (nq_3, .inl (cA, ([nI b9, nI e9].length, .inl (atL [nI b9, nI e9]))))] := hD
              have hP := g_subP hP [0, 2] (wc := [(a, .inl (cA, (L.length, .inl (atL L)))), (nq_3, .inl (cA, ([nI b9, nI e9].length, .inl (atL [nI b9, nI e9]))))]) rfl
              have hD := hD.sub (ws' := [(a, .inl (cA, (L.length, .inl (atL L)))), (nq_3, .inl (cA, ([nI b9, nI e9].length, .inl (atL [nI b9, nI e9]))))]) [0, 2] (by decide) rfl
              exact g_endQa hx hb hr (Or.inr ⟨_, rfl⟩) (Or.inr ⟨_, rfl⟩) hlocks hP hD hS dX2_handle_92 nq_3 rfl rfl trivial (by omega) (by omega)
  exact lp36 ((L.length - 0) + 1) 0 (upd (upd (upd (upd (upd (upd (upd (fun _ => 0) 0 (-1)) 1 (-1)) 2 (-1)) 3 (-1)) 4 (-1)) 5 (-1)) 6 (-1)) (Nat.zero_le _) (fun h hh => by rcases (show h = 0 ∨ h = 1 ∨ h = 2 ∨ h = 3 ∨ h = 4 ∨ h = 5 ∨ h = 6 by omega) with rfl | rfl | rfl | rfl | rfl | rfl | rfl <;> rfl) (Nat.lt_succ_self _) _ _ hP hD hS _ (lv_sub hl [0, 1, 2] rfl)
