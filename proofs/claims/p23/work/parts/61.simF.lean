/-! 61: the hand made -/

abbrev mt_S_init_rm : Room := { frames := 1, cells := 3, slots := 2, locals := 12 }
set_option maxHeartbeats 4000000 in
set_option maxRecDepth 100000 in
/-- Sim -/
theorem mt_S_init (l : Launch) (dC : Nat → ClassId) (dI : Nat → Nat → Nat) (cA cAA : ClassId) (sz : Nat) (y0 : Nat) : Met l yX2_init wsX2_init mt_S_init_rm (va_Pc [.ref y0] (gBX xA (dC, dI) [(cA, .int), (cAA, .array .int)] [(y0, .inr (2, [.int 0, .null]))] sz)) (gQ (dC, dI) (fun u : Nat × Nat × Nat => none) (fun u : Nat × Nat × Nat => True) (fun u : Nat × Nat × Nat => [(y0, .inr (2, [.int 3, .ref u.1])), (u.1, .inl (cAA, (2, .inr (.inr (.inr (.inr (w2f u.2.1 u.2.2))))))), (u.2.1, .inl (cA, (([] : List Int32).length, .inl (atL ([] : List Int32))))), (u.2.2, .inl (cA, (([] : List Int32).length, .inl (atL ([] : List Int32)))))]) (va_A [(y0, .inr (2, [.int 0, .null]))] sz)) 3 2 (va_A [(y0, .inr (2, [.int 0, .null]))] sz) := by
  refine g_ofQ (cc := cX2_init) (maxL := 1) (ret := none) (by decide) rfl (Nat.le_of_ble_eq_true rfl) (fun p e s m below meth c ls hx hb hr hml hts hown hlocks hP hK hl hin A hA hD hS hXX => ?_)
  have hl : lv_has ls 1 [(0, .ref y0)] := hl
  have hK1 : va_K (dC, dI) vwCl [(cA, .int)] s := hK.sub [0] rfl
  refine lv_aload_n hx hb dX2_init_0 rfl (lv_at hl 0 rfl) ?_
  refine W.objInit hx hb hown (hts (.methodLink RX2 1 objectInit) (List.mem_of_getElem? (i := 1) rfl)) (hts (.instanceMethod objectInit) (List.mem_of_getElem? (i := 2) rfl)) (hts _ (List.mem_of_getElem? (i := 3) rfl)) rfl (by rw [hml]; exact hl.1) rfl dX2_init_1 (Nat.le_of_ble_eq_true rfl) (Nat.le_of_ble_eq_true rfl) ?_
  refine W.eq (g2 := F0 m 4 ls []) rfl ?_
  refine lv_aload_n hx hb dX2_init_4 rfl (lv_at hl 0 rfl) ?_
  refine lv_iconst (v := 3) hx hb dX2_init_5 (by decide) ?_
  refine va_put (D := (dC, dI)) (ci := 2) (v := .int 3) (ty := .int) (C := RX2) (T := TX2) (N := 2) hx hb hts (in_X2_init_2) tyX2 tyX2_ok nmX2 hown hK hP hD hS 0 rfl rfl 0 (by decide) (hts (.fieldLink RX2 7 "BraidWordsLaw$Sim" "ropes" "I") (List.mem_of_getElem? (i := 4) rfl)) (fun _ h9 => h9) rfl (by decide +kernel) rfl rfl (Nat.le_of_ble_eq_true rfl) dX2_init_6 (fun H locs hP hD hS => ?_)
  have hP : va_P (dC, dI) vwCl [(y0, .inr (2, [.int 3, .null]))] H := hP
  have hD : va_D A [(y0, .inr (2, [.int 3, .null]))] := hD
  refine lv_aload_n hx hb dX2_init_9 rfl (lv_at hl 0 rfl) ?_
  refine lv_iconst (v := 2) hx hb dX2_init_10 (by decide) ?_
  refine va_new2 (t := .int) hx hb hown (by rw [aa_nm]; exact (hts (.classLink RX2 13 "[I") (List.mem_of_getElem? (i := 5) rfl))) (show aoI s from hXX).use hK hP hD hS hA (N' := 2) (by decide) (by decide) (by decide) (by show _ ≤ 3; omega) (by show _ ≤ 2; omega) dX2_init_11 (fun nq_1 cB_2 H hK9 hP hD hS => ?_)
  have eA9 : cB_2 = cAA := Option.some.inj ((hK9.2 2 _ rfl).2.symm.trans (hK.2 1 _ rfl).2)
  rw [eA9] at hP hD
  have hP : va_P (dC, dI) vwCl [(y0, .inr (2, [.int 3, .null])), (nq_1, .inl (cAA, (2, .inr (.inr (.inr (.inr (fun _ => none)))))))] H := hP
  have hD : va_D A [(y0, .inr (2, [.int 3, .null])), (nq_1, .inl (cAA, (2, .inr (.inr (.inr (.inr (fun _ => none)))))))] := hD
  refine lv_dup hx hb dX2_init_14 rfl ?_
  refine lv_iconst (v := 0) hx hb dX2_init_15 (by decide) ?_
  refine lv_iconst (v := 0) hx hb dX2_init_16 (by decide) ?_
  refine va_newa (atype := .int) (ty := .int) (a0 := (0, .inl (fun _ => 0))) (N' := 0) hx hb (hts (.arrayClass .int) (List.mem_of_getElem? (i := 6) rfl)) rfl hK hP hD hS hA (fun _ => rfl) (by decide) (by decide) (by decide) (by show _ ≤ 3; omega) (by show _ ≤ 2; omega) dX2_init_17 (fun nq_3 cA_4 H hK9 hP hD hS => ?_)
  have eA9 : cA_4 = cA := Option.some.inj ((hK9.2 2 _ rfl).2.symm.trans (hK.2 0 _ rfl).2)
  rw [eA9] at hP hD
  have hP : va_P (dC, dI) vwCl [(y0, .inr (2, [.int 3, .null])), (nq_1, .inl (cAA, (2, .inr (.inr (.inr (.inr (fun _ => none))))))), (nq_3, .inl (cA, (0, .inl (fun _ => 0))))] H := hP
  have hD : va_D A [(y0, .inr (2, [.int 3, .null])), (nq_1, .inl (cAA, (2, .inr (.inr (.inr (.inr (fun _ => none))))))), (nq_3, .inl (cA, (0, .inl (fun _ => 0))))] := hD
  have hP := va_canon hP 2 rfl ([] : List Int32) rfl (fun j hj => absurd hj (Nat.not_lt_zero j))
  have hD := va_canonD hD 2 rfl ([] : List Int32) (cA := cA)
  have hP : va_P (dC, dI) vwCl [(y0, .inr (2, [.int 3, .null])), (nq_1, .inl (cAA, (2, .inr (.inr (.inr (.inr (fun _ => none))))))), (nq_3, .inl (cA, (([] : List Int32).length, .inl (atL ([] : List Int32)))))] H := hP
  have hD : va_D A [(y0, .inr (2, [.int 3, .null])), (nq_1, .inl (cAA, (2, .inr (.inr (.inr (.inr (fun _ => none))))))), (nq_3, .inl (cA, (([] : List Int32).length, .inl (atL ([] : List Int32)))))] := hD
  refine va_ast2 hx hb hP hD hS 1 2 rfl rfl ((show aoI s from hXX).spec hK 0 1 rfl rfl) (vp_in_nI (n := 0) (by omega) (by decide)) dX2_init_19 (fun H locs hP hD hS => ?_)
  rw [show (0 : Int32).toNatClampNeg = 0 from by decide] at hP hD
  have hP : va_P (dC, dI) vwCl [(y0, .inr (2, [.int 3, .null])), (nq_1, .inl (cAA, (2, .inr (.inr (.inr (.inr (va_up (fun _ => none) 0 (some nq_3)))))))), (nq_3, .inl (cA, (([] : List Int32).length, .inl (atL ([] : List Int32)))))] H := hP
  have hD : va_D A [(y0, .inr (2, [.int 3, .null])), (nq_1, .inl (cAA, (2, .inr (.inr (.inr (.inr (va_up (fun _ => none) 0 (some nq_3)))))))), (nq_3, .inl (cA, (([] : List Int32).length, .inl (atL ([] : List Int32)))))] := hD
  refine lv_dup hx hb dX2_init_20 rfl ?_
  refine lv_iconst (v := 1) hx hb dX2_init_21 (by decide) ?_
  refine lv_iconst (v := 0) hx hb dX2_init_22 (by decide) ?_
  refine va_newa (atype := .int) (ty := .int) (a0 := (0, .inl (fun _ => 0))) (N' := 0) hx hb (hts (.arrayClass .int) (List.mem_of_getElem? (i := 6) rfl)) rfl hK hP hD hS hA (fun _ => rfl) (by decide) (by decide) (by decide) (by show _ ≤ 3; omega) (by show _ ≤ 2; omega) dX2_init_23 (fun nq_5 cA_6 H hK9 hP hD hS => ?_)
  have eA9 : cA_6 = cA := Option.some.inj ((hK9.2 2 _ rfl).2.symm.trans (hK.2 0 _ rfl).2)
  rw [eA9] at hP hD
  have hP : va_P (dC, dI) vwCl [(y0, .inr (2, [.int 3, .null])), (nq_1, .inl (cAA, (2, .inr (.inr (.inr (.inr (va_up (fun _ => none) 0 (some nq_3)))))))), (nq_3, .inl (cA, (([] : List Int32).length, .inl (atL ([] : List Int32))))), (nq_5, .inl (cA, (0, .inl (fun _ => 0))))] H := hP
  have hD : va_D A [(y0, .inr (2, [.int 3, .null])), (nq_1, .inl (cAA, (2, .inr (.inr (.inr (.inr (va_up (fun _ => none) 0 (some nq_3)))))))), (nq_3, .inl (cA, (([] : List Int32).length, .inl (atL ([] : List Int32))))), (nq_5, .inl (cA, (0, .inl (fun _ => 0))))] := hD
  have hP := va_canon hP 3 rfl ([] : List Int32) rfl (fun j hj => absurd hj (Nat.not_lt_zero j))
  have hD := va_canonD hD 3 rfl ([] : List Int32) (cA := cA)
  have hP : va_P (dC, dI) vwCl [(y0, .inr (2, [.int 3, .null])), (nq_1, .inl (cAA, (2, .inr (.inr (.inr (.inr (va_up (fun _ => none) 0 (some nq_3)))))))), (nq_3, .inl (cA, (([] : List Int32).length, .inl (atL ([] : List Int32))))), (nq_5, .inl (cA, (([] : List Int32).length, .inl (atL ([] : List Int32)))))] H := hP
  have hD : va_D A [(y0, .inr (2, [.int 3, .null])), (nq_1, .inl (cAA, (2, .inr (.inr (.inr (.inr (va_up (fun _ => none) 0 (some nq_3)))))))), (nq_3, .inl (cA, (([] : List Int32).length, .inl (atL ([] : List Int32))))), (nq_5, .inl (cA, (([] : List Int32).length, .inl (atL ([] : List Int32)))))] := hD
  refine va_ast2 hx hb hP hD hS 1 3 rfl rfl ((show aoI s from hXX).spec hK 0 1 rfl rfl) (vp_in_nI (n := 1) (by omega) (by decide)) dX2_init_25 (fun H locs hP hD hS => ?_)
  rw [show (1 : Int32).toNatClampNeg = 1 from by decide] at hP hD
  have hP : va_P (dC, dI) vwCl [(y0, .inr (2, [.int 3, .null])), (nq_1, .inl (cAA, (2, .inr (.inr (.inr (.inr (va_up (va_up (fun _ => none) 0 (some nq_3)) 1 (some nq_5)))))))), (nq_3, .inl (cA, (([] : List Int32).length, .inl (atL ([] : List Int32))))), (nq_5, .inl (cA, (([] : List Int32).length, .inl (atL ([] : List Int32)))))] H := hP
  have hD : va_D A [(y0, .inr (2, [.int 3, .null])), (nq_1, .inl (cAA, (2, .inr (.inr (.inr (.inr (va_up (va_up (fun _ => none) 0 (some nq_3)) 1 (some nq_5)))))))), (nq_3, .inl (cA, (([] : List Int32).length, .inl (atL ([] : List Int32))))), (nq_5, .inl (cA, (([] : List Int32).length, .inl (atL ([] : List Int32)))))] := hD
  refine va_put (D := (dC, dI)) (ci := 2) (v := .ref nq_1) (ty := (.array (.array .int))) (C := RX2) (T := TX2) (N := 2) hx hb hts (in_X2_init_2) tyX2 tyX2_ok nmX2 hown hK hP hD hS 0 rfl rfl 1 (by decide) (hts (.fieldLink RX2 15 "BraidWordsLaw$Sim" "words" "[[I") (List.mem_of_getElem? (i := 7) rfl)) (fun _ h9 => h9) rfl (by decide +kernel) rfl rfl (Nat.le_of_ble_eq_true rfl) dX2_init_26 (fun H locs hP hD hS => ?_)
  have hP : va_P (dC, dI) vwCl [(y0, .inr (2, [.int 3, .ref nq_1])), (nq_1, .inl (cAA, (2, .inr (.inr (.inr (.inr (va_up (va_up (fun _ => none) 0 (some nq_3)) 1 (some nq_5)))))))), (nq_3, .inl (cA, (([] : List Int32).length, .inl (atL ([] : List Int32))))), (nq_5, .inl (cA, (([] : List Int32).length, .inl (atL ([] : List Int32)))))] H := hP
  have hD : va_D A [(y0, .inr (2, [.int 3, .ref nq_1])), (nq_1, .inl (cAA, (2, .inr (.inr (.inr (.inr (va_up (va_up (fun _ => none) 0 (some nq_3)) 1 (some nq_5)))))))), (nq_3, .inl (cA, (([] : List Int32).length, .inl (atL ([] : List Int32))))), (nq_5, .inl (cA, (([] : List Int32).length, .inl (atL ([] : List Int32)))))] := hD
  rw [show va_up (va_up (fun _ => none) 0 (some nq_3)) 1 (some nq_5) = w2f nq_3 nq_5 from w2_mk] at hP hD
  have hP : va_P (dC, dI) vwCl [(y0, .inr (2, [.int 3, .ref nq_1])), (nq_1, .inl (cAA, (2, .inr (.inr (.inr (.inr (w2f nq_3 nq_5))))))), (nq_3, .inl (cA, (([] : List Int32).length, .inl (atL ([] : List Int32))))), (nq_5, .inl (cA, (([] : List Int32).length, .inl (atL ([] : List Int32)))))] H := hP
  have hD : va_D A [(y0, .inr (2, [.int 3, .ref nq_1])), (nq_1, .inl (cAA, (2, .inr (.inr (.inr (.inr (w2f nq_3 nq_5))))))), (nq_3, .inl (cA, (([] : List Int32).length, .inl (atL ([] : List Int32))))), (nq_5, .inl (cA, (([] : List Int32).length, .inl (atL ([] : List Int32)))))] := hD
  exact g_endQv hx hb hr hlocks hP hD hS dX2_init_29 (nq_1, nq_3, nq_5) rfl rfl trivial (by omega) (by omega)
