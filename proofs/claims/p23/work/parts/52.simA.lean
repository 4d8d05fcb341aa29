/-! 52: words by hand: laid together, pieces, turned round -/

abbrev mt_X2_cat_rm (L : List Int32) (M : List Int32) : Room := { frames := 0, cells := 1, slots := (L.length + M.length), locals := 0 }
set_option maxHeartbeats 4000000 in
set_option maxRecDepth 100000 in
/-- Sim.cat -/
theorem mt_X2_cat (l : Launch) (dC : Nat → ClassId) (dI : Nat → Nat → Nat) (cA : ClassId) (sz : Nat) (a : Nat) (b : Nat) (L : List Int32) (M : List Int32) (hl2 : L.length + M.length ≤ 1000) : Met l yX2_cat wsX2_cat (mt_X2_cat_rm L M) (va_Pc [.ref a, .ref b] (gBX xT (dC, dI) [(cA, .int)] [(a, .inl (cA, (L.length, .inl (atL L)))), (b, .inl (cA, (M.length, .inl (atL M))))] sz)) (gQ (dC, dI) (fun u : Nat => some (.ref u)) (fun u : Nat => True) (fun u : Nat => [(a, .inl (cA, (L.length, .inl (atL L)))), (b, .inl (cA, (M.length, .inl (atL M)))), (u, .inl (cA, ((L ++ M).length, .inl (atL (L ++ M)))))]) (va_A [(a, .inl (cA, (L.length, .inl (atL L)))), (b, .inl (cA, (M.length, .inl (atL M))))] sz)) 1 (L.length + M.length) (va_A [(a, .inl (cA, (L.length, .inl (atL L)))), (b, .inl (cA, (M.length, .inl (atL M))))] sz) := by
  refine g_ofQ (cc := cX2_cat) (maxL := 4) (ret := (some (.array .int))) (by decide) rfl (Nat.le_of_ble_eq_true rfl) (fun p e s m below meth c ls hx hb hr hml hts hown hlocks hP hK hl hin A hA hD hS hXX => ?_)
  have hl : lv_has ls 4 [(0, .ref a), (1, .ref b)] := hl
  refine lv_aload_n hx hb dX2_cat_0 rfl (lv_at hl 0 rfl) ?_
  refine va_alen (v := nI L.length) hx hb hK hP 0 0 rfl rfl rfl dX2_cat_1 ?_
  refine lv_aload_n hx hb dX2_cat_2 rfl (lv_at hl 1 rfl) ?_
  refine va_alen (v := nI M.length) hx hb hK hP 1 0 rfl rfl rfl dX2_cat_3 ?_
  refine lv_iadd hx hb dX2_cat_4 ?_
  rw [show (nI L.length) + (nI M.length) = nI (L.length + M.length) from nI_add L.length M.length]
  refine va_newa (atype := .int) (ty := .int) (a0 := (L.length + M.length, .inl (fun _ => 0))) (N' := L.length + M.length) hx hb (hts (.arrayClass .int) (List.mem_of_getElem? (i := 1) rfl)) rfl hK hP hD hS hA (fun _ => rfl) (nI_pos (by omega)) (nI_clamp (by omega)) (by show _ * 4 ≤ _; omega) (by show _ ≤ 1; omega) (by show _ ≤ (L.length + M.length); omega) dX2_cat_5 (fun nq_1 cA_2 H hK9 hP hD hS => ?_)
  have eA9 : cA_2 = cA := Option.some.inj ((hK9.2 1 _ rfl).2.symm.trans (hK.2 0 _ rfl).2)
  rw [eA9] at hP hD
  have hP : va_P (dC, dI) vwCl [(a, .inl (cA, (L.length, .inl (atL L)))), (b, .inl (cA, (M.length, .inl (atL M)))), (nq_1, .inl (cA, (L.length + M.length, .inl (fun _ => 0))))] H := hP
  have hD : va_D A [(a, .inl (cA, (L.length, .inl (atL L)))), (b, .inl (cA, (M.length, .inl (atL M)))), (nq_1, .inl (cA, (L.length + M.length, .inl (fun _ => 0))))] := hD
  refine lv_astore_n (lv' := [(2, .ref nq_1), (0, .ref a), (1, .ref b)]) hx hb dX2_cat_7 rfl hl (by decide) rfl (fun ls hl => ?_)
  refine lv_iconst (v := 0) hx hb dX2_cat_8 (by decide) ?_
  refine lv_istore_n (lv' := [(3, .int 0), (2, .ref nq_1), (0, .ref a), (1, .ref b)]) hx hb dX2_cat_9 rfl hl (by decide) rfl (fun ls hl => ?_)
  have lp10 : ∀ (d : Nat) (k : Nat) (f : Nat → Int32) (hk9 : k ≤ L.length + M.length) (hf : ∀ j, j < k → f j = atL (L ++ M) j), L.length + M.length - k < d → ∀ (H : Heap) (locs : List Loc), va_P (dC, dI) vwCl [(a, .inl (cA, (L.length, .inl (atL L)))), (b, .inl (cA, (M.length, .inl (atL M)))), (nq_1, .inl (cA, (L.length + M.length, .inl f)))] H → va_D A [(a, .inl (cA, (L.length, .inl (atL L)))), (b, .inl (cA, (M.length, .inl (atL M)))), (nq_1, .inl (cA, (L.length + M.length, .inl f)))] → va_S A s.heap H locs → ∀ ls : Array Slot, lv_has ls 4 [(3, .int (nI k)), (2, .ref nq_1), (0, .ref a), (1, .ref b)] → W p l e (mt_X2_cat_rm L M) s m ([.ref a, .ref b] : List Value).toArray below meth c H locs (0 + 1) (0 + (L.length + M.length)) (MQ below (gQ (dC, dI) (fun u : Nat => some (.ref u)) (fun u : Nat => True) (fun u : Nat => [(a, .inl (cA, (L.length, .inl (atL L)))), (b, .inl (cA, (M.length, .inl (atL M)))), (u, .inl (cA, ((L ++ M).length, .inl (atL (L ++ M)))))]) A) ([.ref a, .ref b] : List Value).toArray s 1 (L.length + M.length) A) (F0 m 10 ls []) := by
    intro d
    induction d with
    | zero => intro k f hk9 hf hd; exact absurd hd (Nat.not_lt_zero _)
    | succ d ih10 =>
      intro k f hk9 hf hd H locs hP hD hS ls hl
      refine lv_iload_n hx hb dX2_cat_10 rfl (lv_at hl 0 rfl) ?_
      refine lv_aload_n hx hb dX2_cat_11 rfl (lv_at hl 1 rfl) ?_
      refine va_alen (v := nI (L.length + M.length)) hx hb hK hP 2 0 rfl rfl rfl dX2_cat_12 ?_
      refine lv_icmp_ge (tgt := 43) hx hb dX2_cat_13 (by decide) (fun c13 => ?_) (fun c13 => ?_)
      · have c13 : (L.length + M.length) ≤ k := g_geT k (L.length + M.length) (by omega) (by omega) c13
        refine lv_aload_n hx hb dX2_cat_43 rfl (lv_at hl 1 rfl) ?_
        have hP := va_canon hP 2 rfl (L ++ M) ((List.length_append).symm) (fun j hj => hf j (by rw [List.length_append] at hj; omega))
        have hD := va_canonD hD 2 rfl (L ++ M) (cA := cA)
        have hP : va_P (dC, dI) vwCl [(a, .inl (cA, (L.length, .inl (atL L)))), (b, .inl (cA, (M.length, .inl (atL M)))), (nq_1, .inl (cA, ((L ++ M).length, .inl (atL (L ++ M)))))] H := hP
        have hD : va_D A [(a, .inl (cA, (L.length, .inl (atL L)))), (b, .inl (cA, (M.length, .inl (atL M)))), (nq_1, .inl (cA, ((L ++ M).length, .inl (atL (L ++ M)))))] := hD
        exact g_endQa hx hb hr (Or.inr ⟨_, rfl⟩) (Or.inr ⟨_, rfl⟩) hlocks hP hD hS dX2_cat_44 nq_1 rfl rfl trivial (by omega) (by omega)
      · have c13 : k < (L.length + M.length) := g_geF k (L.length + M.length) (by omega) (by omega) c13
        refine lv_aload_n hx hb dX2_cat_16 rfl (lv_at hl 1 rfl) ?_
        refine lv_iload_n hx hb dX2_cat_17 rfl (lv_at hl 0 rfl) ?_
        refine lv_iload_n hx hb dX2_cat_18 rfl (lv_at hl 0 rfl) ?_
        refine lv_aload_n hx hb dX2_cat_19 rfl (lv_at hl 2 rfl) ?_
        refine va_alen (v := nI L.length) hx hb hK hP 0 0 rfl rfl rfl dX2_cat_20 ?_
        refine lv_icmp_ge (tgt := 30) hx hb dX2_cat_21 (by decide) (fun c21 => ?_) (fun c21 => ?_)
        · have c21 : L.length ≤ k := g_geT k L.length (by omega) (by omega) c21
          refine lv_aload_n hx hb dX2_cat_30 rfl (lv_at hl 3 rfl) ?_
          refine lv_iload_n hx hb dX2_cat_31 rfl (lv_at hl 0 rfl) ?_
          refine lv_aload_n hx hb dX2_cat_32 rfl (lv_at hl 2 rfl) ?_
          refine va_alen (v := nI L.length) hx hb hK hP 0 0 rfl rfl rfl dX2_cat_33 ?_
          refine lv_isub hx hb dX2_cat_34 ?_
          rw [show (nI k) - (nI L.length) = nI (k - L.length) from pk_sub (by omega)]
          refine va_iald hx hb hK hP 1 0 rfl rfl (vp_in_nI (by omega) (by omega)) dX2_cat_35 ?_
          rw [show (nI (k - L.length)).toNatClampNeg = k - L.length from nI_clamp (by omega)]
          refine va_iast hx hb hK hP hD hS 2 0 rfl rfl (vp_in_nI (by omega) (by omega)) dX2_cat_36 (fun H locs hP hD hS => ?_)
          rw [show (nI k).toNatClampNeg = k from nI_clamp (by omega)] at hP hD
          have hP : va_P (dC, dI) vwCl [(a, .inl (cA, (L.length, .inl (atL L)))), (b, .inl (cA, (M.length, .inl (atL M)))), (nq_1, .inl (cA, (L.length + M.length, .inl (upd f k (atL M (k - L.length))))))] H := hP
          have hD : va_D A [(a, .inl (cA, (L.length, .inl (atL L)))), (b, .inl (cA, (M.length, .inl (atL M)))), (nq_1, .inl (cA, (L.length + M.length, .inl (upd f k (atL M (k - L.length))))))] := hD
          refine lv_iinc (v := nI (k + 1)) (lv' := [(3, .int (nI (k + 1))), (2, .ref nq_1), (0, .ref a), (1, .ref b)]) hx hb dX2_cat_37 hl (k := 0) rfl (g_inc _) (by decide) rfl (fun ls hl => ?_)
          refine lv_goto (tgt := 10) hx hb dX2_cat_40 (by decide) ?_
          exact ih10 (k + 1) (upd f k (atL M (k - L.length))) (by omega) (ar_push hf ((atL_appR (by omega)).symm)) (by omega) _ _ hP hD hS _ (lv_sub hl [0, 1, 2, 3] rfl)
        · have c21 : k < L.length := g_geF k L.length (by omega) (by omega) c21
          refine lv_aload_n hx hb dX2_cat_24 rfl (lv_at hl 2 rfl) ?_
          refine lv_iload_n hx hb dX2_cat_25 rfl (lv_at hl 0 rfl) ?_
          refine va_iald hx hb hK hP 0 0 rfl rfl (vp_in_nI (by omega) (by omega)) dX2_cat_26 ?_
          rw [show (nI k).toNatClampNeg = k from nI_clamp (by omega)]
          refine lv_goto (tgt := 36) hx hb dX2_cat_27 (by decide) ?_
          refine va_iast hx hb hK hP hD hS 2 0 rfl rfl (vp_in_nI (by omega) (by omega)) dX2_cat_36 (fun H locs hP hD hS => ?_)
          rw [show (nI k).toNatClampNeg = k from nI_clamp (by omega)] at hP hD
          have hP : va_P (dC, dI) vwCl [(a, .inl (cA, (L.length, .inl (atL L)))), (b, .inl (cA, (M.length, .inl (atL M)))), (nq_1, .inl (cA, (L.length + M.length, .inl (upd f k (atL L k)))))] H := hP
          have hD : va_D A [(a, .inl (cA, (L.length, .inl (atL L)))), (b, .inl (cA, (M.length, .inl (atL M)))), (nq_1, .inl (cA, (L.length + M.length, .inl (upd f k (atL L k)))))] := hD
          refine lv_iinc (v := nI (k + 1)) (lv' := [(3, .int (nI (k + 1))), (2, .ref nq_1), (0, .ref a), (1, .ref b)]) hx hb dX2_cat_37 hl (k := 0) rfl (g_inc _) (by decide) rfl (fun ls hl => ?_)
          refine lv_goto (tgt := 10) hx hb dX2_cat_40 (by decide) ?_
          exact ih10 (k + 1) (upd f k (atL L k)) (by omega) (ar_push hf ((atL_appL (by omega)).symm)) (by omega) _ _ hP hD hS _ (lv_sub hl [0, 1, 2, 3] rfl)
  exact lp10 ((L.length + M.length - 0) + 1) 0 (fun _ => 0) (Nat.zero_le _) (fun j hj => absurd hj (Nat.not_lt_zero j)) (Nat.lt_succ_self _) _ _ hP hD hS _ (lv_sub hl [0, 1, 2, 3] rfl)

abbrev mt_X2_piece_rm (i : Nat) (j : Nat) : Room := { frames := 0, cells := 1, slots := (j - i), locals := 0 }
set_option maxHeartbeats 4000000 in
set_option maxRecDepth 100000 in
/-- Sim.piece -/
theorem mt_X2_piece (l : Launch) (dC : Nat → ClassId) (dI : Nat → Nat → Nat) (cA : ClassId) (sz : Nat) (a : Nat) (L : List Int32) (i : Nat) (j : Nat) (hij : i ≤ j) (hj : j ≤ L.length) (hl1 : L.length ≤ 1000) : Met l yX2_piece wsX2_piece (mt_X2_piece_rm i j) (va_Pc [.ref a, .int (nI i), .int (nI j)] (gBX xT (dC, dI) [(cA, .int)] [(a, .inl (cA, (L.length, .inl (atL L))))] sz)) (gQ (dC, dI) (fun u : Nat => some (.ref u)) (fun u : Nat => True) (fun u : Nat => [(a, .inl (cA, (L.length, .inl (atL L)))), (u, .inl (cA, ((pcL L i j).length, .inl (atL (pcL L i j)))))]) (va_A [(a, .inl (cA, (L.length, .inl (atL L))))] sz)) 1 (j - i) (va_A [(a, .inl (cA, (L.length, .inl (atL L))))] sz) := by
  refine g_ofQ (cc := cX2_piece) (maxL := 5) (ret := (some (.array .int))) (by decide) rfl (Nat.le_of_ble_eq_true rfl) (fun p e s m below meth c ls hx hb hr hml hts hown hlocks hP hK hl hin A hA hD hS hXX => ?_)
  have hl : lv_has ls 5 [(0, .ref a), (1, .int (nI i)), (2, .int (nI j))] := hl
  refine lv_iload_n hx hb dX2_piece_0 rfl (lv_at hl 2 rfl) ?_
  refine lv_iload_n hx hb dX2_piece_1 rfl (lv_at hl 1 rfl) ?_
  refine lv_isub hx hb dX2_piece_2 ?_
  rw [show (nI j) - (nI i) = nI (j - i) from pk_sub (by omega)]
  refine va_newa (atype := .int) (ty := .int) (a0 := (j - i, .inl (fun _ => 0))) (N' := j - i) hx hb (hts (.arrayClass .int) (List.mem_of_getElem? (i := 1) rfl)) rfl hK hP hD hS hA (fun _ => rfl) (nI_pos (by omega)) (nI_clamp (by omega)) (by show _ * 4 ≤ _; omega) (by show _ ≤ 1; omega) (by show _ ≤ (j - i); omega) dX2_piece_3 (fun nq_1 cA_2 H hK9 hP hD hS => ?_)
  have eA9 : cA_2 = cA := Option.some.inj ((hK9.2 1 _ rfl).2.symm.trans (hK.2 0 _ rfl).2)
  rw [eA9] at hP hD
  have hP : va_P (dC, dI) vwCl [(a, .inl (cA, (L.length, .inl (atL L)))), (nq_1, .inl (cA, (j - i, .inl (fun _ => 0))))] H := hP
  have hD : va_D A [(a, .inl (cA, (L.length, .inl (atL L)))), (nq_1, .inl (cA, (j - i, .inl (fun _ => 0))))] := hD
  refine lv_astore_n (lv' := [(3, .ref nq_1), (0, .ref a), (1, .int (nI i)), (2, .int (nI j))]) hx hb dX2_piece_5 rfl hl (by decide) rfl (fun ls hl => ?_)
  refine lv_iload_n hx hb dX2_piece_6 rfl (lv_at hl 2 rfl) ?_
  refine lv_istore (lv' := [(4, .int (nI i)), (3, .ref nq_1), (0, .ref a), (1, .int (nI i)), (2, .int (nI j))]) hx hb dX2_piece_7 hl (by decide) rfl (fun ls hl => ?_)
  have lp9 : ∀ (d : Nat) (k : Nat) (f : Nat → Int32) (hk1 : i ≤ k) (hk2 : k ≤ j) (hf : ∀ t, t < k - i → f t = atL (pcL L i j) t), j - k < d → ∀ (H : Heap) (locs : List Loc), va_P (dC, dI) vwCl [(a, .inl (cA, (L.length, .inl (atL L)))), (nq_1, .inl (cA, (j - i, .inl f)))] H → va_D A [(a, .inl (cA, (L.length, .inl (atL L)))), (nq_1, .inl (cA, (j - i, .inl f)))] → va_S A s.heap H locs → ∀ ls : Array Slot, lv_has ls 5 [(4, .int (nI k)), (3, .ref nq_1), (0, .ref a), (1, .int (nI i)), (2, .int (nI j))] → W p l e (mt_X2_piece_rm i j) s m ([.ref a, .int (nI i), .int (nI j)] : List Value).toArray below meth c H locs (0 + 1) (0 + (j - i)) (MQ below (gQ (dC, dI) (fun u : Nat => some (.ref u)) (fun u : Nat => True) (fun u : Nat => [(a, .inl (cA, (L.length, .inl (atL L)))), (u, .inl (cA, ((pcL L i j).length, .inl (atL (pcL L i j)))))]) A) ([.ref a, .int (nI i), .int (nI j)] : List Value).toArray s 1 (j - i) A) (F0 m 9 ls []) := by
    intro d
    induction d with
    | zero => intro k f hk1 hk2 hf hd; exact absurd hd (Nat.not_lt_zero _)
    | succ d ih9 =>
      intro k f hk1 hk2 hf hd H locs hP hD hS ls hl
      refine lv_iload hx hb dX2_piece_9 (lv_at hl 0 rfl) ?_
      refine lv_iload_n hx hb dX2_piece_11 rfl (lv_at hl 4 rfl) ?_
      refine lv_icmp_ge (tgt := 31) hx hb dX2_piece_12 (by decide) (fun c12 => ?_) (fun c12 => ?_)
      · have c12 : j ≤ k := g_geT k j (by omega) (by omega) c12
        refine lv_aload_n hx hb dX2_piece_31 rfl (lv_at hl 1 rfl) ?_
        have hP := va_canon hP 1 rfl (pcL L i j) ((pcL_len hij hj).symm) (fun t ht => hf t (by rw [pcL_len hij hj] at ht; omega))
        have hD := va_canonD hD 1 rfl (pcL L i j) (cA := cA)
        have hP : va_P (dC, dI) vwCl [(a, .inl (cA, (L.length, .inl (atL L)))), (nq_1, .inl (cA, ((pcL L i j).length, .inl (atL (pcL L i j)))))] H := hP
        have hD : va_D A [(a, .inl (cA, (L.length, .inl (atL L)))), (nq_1, .inl (cA, ((pcL L i j).length, .inl (atL (pcL L i j)))))] := hD
        exact g_endQa hx hb hr (Or.inr ⟨_, rfl⟩) (Or.inr ⟨_, rfl⟩) hlocks hP hD hS dX2_piece_32 nq_1 rfl rfl trivial (by omega) (by omega)
      · have c12 : k < j := g_geF k j (by omega) (by omega) c12
        refine lv_aload_n hx hb dX2_piece_15 rfl (lv_at hl 1 rfl) ?_
        refine lv_iload hx hb dX2_piece_16 (lv_at hl 0 rfl) ?_
        refine lv_iload_n hx hb dX2_piece_18 rfl (lv_at hl 3 rfl) ?_
        refine lv_isub hx hb dX2_piece_19 ?_
        rw [show (nI k) - (nI i) = nI (k - i) from pk_sub (by omega)]
        refine lv_aload_n hx hb dX2_piece_20 rfl (lv_at hl 2 rfl) ?_
        refine lv_iload hx hb dX2_piece_21 (lv_at hl 0 rfl) ?_
        refine va_iald hx hb hK hP 0 0 rfl rfl (vp_in_nI (by omega) (by omega)) dX2_piece_23 ?_
        rw [show (nI k).toNatClampNeg = k from nI_clamp (by omega)]
        refine va_iast hx hb hK hP hD hS 1 0 rfl rfl (vp_in_nI (by omega) (by omega)) dX2_piece_24 (fun H locs hP hD hS => ?_)
        rw [show (nI (k - i)).toNatClampNeg = k - i from nI_clamp (by omega)] at hP hD
        have hP : va_P (dC, dI) vwCl [(a, .inl (cA, (L.length, .inl (atL L)))), (nq_1, .inl (cA, (j - i, .inl (upd f (k - i) (atL L k)))))] H := hP
        have hD : va_D A [(a, .inl (cA, (L.length, .inl (atL L)))), (nq_1, .inl (cA, (j - i, .inl (upd f (k - i) (atL L k)))))] := hD
        refine lv_iinc (v := nI (k + 1)) (lv' := [(4, .int (nI (k + 1))), (3, .ref nq_1), (0, .ref a), (1, .int (nI i)), (2, .int (nI j))]) hx hb dX2_piece_25 hl (k := 0) rfl (g_inc _) (by decide) rfl (fun ls hl => ?_)
        refine lv_goto (tgt := 9) hx hb dX2_piece_28 (by decide) ?_
        exact ih9 (k + 1) (upd f (k - i) (atL L k)) (by omega) (by omega) (by rw [show k + 1 - i = (k - i) + 1 by omega]; exact ar_push hf (by rw [pcL_at (by omega), show i + (k - i) = k by omega])) (by omega) _ _ hP hD hS _ (lv_sub hl [0, 1, 2, 3, 4] rfl)
  exact lp9 ((j - i) + 1) i (fun _ => 0) (Nat.le_refl _) hij (fun t ht => absurd ht (by omega)) (Nat.lt_succ_self _) _ _ hP hD hS _ (lv_sub hl [0, 1, 2, 3, 4] rfl)

abbrev mt_X2_turned_rm (L : List Int32) : Room := { frames := 0, cells := 1, slots := L.length, locals := 0 }
set_option maxHeartbeats 4000000 in
set_option maxRecDepth 100000 in
/-- Sim.turned -/
theorem mt_X2_turned (l : Launch) (dC : Nat → ClassId) (dI : Nat → Nat → Nat) (cA : ClassId) (sz : Nat) (a : Nat) (L : List Int32) (hl1 : L.length ≤ 1000) : Met l yX2_turned wsX2_turned (mt_X2_turned_rm L) (va_Pc [.ref a] (gBX xT (dC, dI) [(cA, .int)] [(a, .inl (cA, (L.length, .inl (atL L))))] sz)) (gQ (dC, dI) (fun u : Nat => some (.ref u)) (fun u : Nat => True) (fun u : Nat => [(a, .inl (cA, (L.length, .inl (atL L)))), (u, .inl (cA, ((turnL L).length, .inl (atL (turnL L)))))]) (va_A [(a, .inl (cA, (L.length, .inl (atL L))))] sz)) 1 L.length (va_A [(a, .inl (cA, (L.length, .inl (atL L))))] sz) := by
  refine g_ofQ (cc := cX2_turned) (maxL := 3) (ret := (some (.array .int))) (by decide) rfl (Nat.le_of_ble_eq_true rfl) (fun p e s m below meth c ls hx hb hr hml hts hown hlocks hP hK hl hin A hA hD hS hXX => ?_)
  have hl : lv_has ls 3 [(0, .ref a)] := hl
  refine lv_aload_n hx hb dX2_turned_0 rfl (lv_at hl 0 rfl) ?_
  refine va_alen (v := nI L.length) hx hb hK hP 0 0 rfl rfl rfl dX2_turned_1 ?_
  refine va_newa (atype := .int) (ty := .int) (a0 := (L.length, .inl (fun _ => 0))) (N' := L.length) hx hb (hts (.arrayClass .int) (List.mem_of_getElem? (i := 1) rfl)) rfl hK hP hD hS hA (fun _ => rfl) (nI_pos (by omega)) (nI_clamp (by omega)) (by show _ * 4 ≤ _; omega) (by show _ ≤ 1; omega) (by show _ ≤ L.length; omega) dX2_turned_2 (fun nq_1 cA_2 H hK9 hP hD hS => ?_)
  have eA9 : cA_2 = cA := Option.some.inj ((hK9.2 1 _ rfl).2.symm.trans (hK.2 0 _ rfl).2)
  rw [eA9] at hP hD
  have hP : va_P (dC, dI) vwCl [(a, .inl (cA, (L.length, .inl (atL L)))), (nq_1, .inl (cA, (L.length, .inl (fun _ => 0))))] H := hP
  have hD : va_D A [(a, .inl (cA, (L.length, .inl (atL L)))), (nq_1, .inl (cA, (L.length, .inl (fun _ => 0))))] := hD
  refine lv_astore_n (lv' := [(1, .ref nq_1), (0, .ref a)]) hx hb dX2_turned_4 rfl hl (by decide) rfl (fun ls hl => ?_)
  refine lv_iconst (v := 0) hx hb dX2_turned_5 (by decide) ?_
  refine lv_istore_n (lv' := [(2, .int 0), (1, .ref nq_1), (0, .ref a)]) hx hb dX2_turned_6 rfl hl (by decide) rfl (fun ls hl => ?_)
  have lp7 : ∀ (d : Nat) (k : Nat) (f : Nat → Int32) (hk9 : k ≤ L.length) (hf : ∀ t, L.length - k ≤ t → t < L.length → f t = atL (turnL L) t), L.length - k < d → ∀ (H : Heap) (locs : List Loc), va_P (dC, dI) vwCl [(a, .inl (cA, (L.length, .inl (atL L)))), (nq_1, .inl (cA, (L.length, .inl f)))] H → va_D A [(a, .inl (cA, (L.length, .inl (atL L)))), (nq_1, .inl (cA, (L.length, .inl f)))] → va_S A s.heap H locs → ∀ ls : Array Slot, lv_has ls 3 [(2, .int (nI k)), (1, .ref nq_1), (0, .ref a)] → W p l e (mt_X2_turned_rm L) s m ([.ref a] : List Value).toArray below meth c H locs (0 + 1) (0 + L.length) (MQ below (gQ (dC, dI) (fun u : Nat => some (.ref u)) (fun u : Nat => True) (fun u : Nat => [(a, .inl (cA, (L.length, .inl (atL L)))), (u, .inl (cA, ((turnL L).length, .inl (atL (turnL L)))))]) A) ([.ref a] : List Value).toArray s 1 L.length A) (F0 m 7 ls []) := by
    intro d
    induction d with
    | zero => intro k f hk9 hf hd; exact absurd hd (Nat.not_lt_zero _)
    | succ d ih7 =>
      intro k f hk9 hf hd H locs hP hD hS ls hl
      refine lv_iload_n hx hb dX2_turned_7 rfl (lv_at hl 0 rfl) ?_
      refine lv_aload_n hx hb dX2_turned_8 rfl (lv_at hl 1 rfl) ?_
      refine va_alen (v := nI L.length) hx hb hK hP 1 0 rfl rfl rfl dX2_turned_9 ?_
      refine lv_icmp_ge (tgt := 31) hx hb dX2_turned_10 (by decide) (fun c10 => ?_) (fun c10 => ?_)
      · have c10 : L.length ≤ k := g_geT k L.length (by omega) (by omega) c10
        refine lv_aload_n hx hb dX2_turned_31 rfl (lv_at hl 1 rfl) ?_
        have hP := va_canon hP 1 rfl (turnL L) turnL_len.symm (fun t ht => hf t (by omega) (by rw [turnL_len] at ht; exact ht))
        have hD := va_canonD hD 1 rfl (turnL L) (cA := cA)
        have hP : va_P (dC, dI) vwCl [(a, .inl (cA, (L.length, .inl (atL L)))), (nq_1, .inl (cA, ((turnL L).length, .inl (atL (turnL L)))))] H := hP
        have hD : va_D A [(a, .inl (cA, (L.length, .inl (atL L)))), (nq_1, .inl (cA, ((turnL L).length, .inl (atL (turnL L)))))] := hD
        exact g_endQa hx hb hr (Or.inr ⟨_, rfl⟩) (Or.inr ⟨_, rfl⟩) hlocks hP hD hS dX2_turned_32 nq_1 rfl rfl trivial (by omega) (by omega)
      · have c10 : k < L.length := g_geF k L.length (by omega) (by omega) c10
        refine lv_aload_n hx hb dX2_turned_13 rfl (lv_at hl 1 rfl) ?_
        refine lv_aload_n hx hb dX2_turned_14 rfl (lv_at hl 1 rfl) ?_
        refine va_alen (v := nI L.length) hx hb hK hP 1 0 rfl rfl rfl dX2_turned_15 ?_
        refine lv_iconst (v := 1) hx hb dX2_turned_16 (by decide) ?_
        refine lv_isub hx hb dX2_turned_17 ?_
        rw [show nI L.length - 1 = nI (L.length - 1) from pk_sub (a := L.length) (b := 1) (by omega)]
        refine lv_iload_n hx hb dX2_turned_18 rfl (lv_at hl 0 rfl) ?_
        refine lv_isub hx hb dX2_turned_19 ?_
        rw [show (nI (L.length - 1)) - (nI k) = nI (L.length - 1 - k) from pk_sub (by omega)]
        refine lv_aload_n hx hb dX2_turned_20 rfl (lv_at hl 2 rfl) ?_
        refine lv_iload_n hx hb dX2_turned_21 rfl (lv_at hl 0 rfl) ?_
        refine va_iald hx hb hK hP 0 0 rfl rfl (vp_in_nI (by omega) (by omega)) dX2_turned_22 ?_
        rw [show (nI k).toNatClampNeg = k from nI_clamp (by omega)]
        refine lv_ineg hx hb dX2_turned_23 ?_
        refine va_iast hx hb hK hP hD hS 1 0 rfl rfl (vp_in_nI (by omega) (by omega)) dX2_turned_24 (fun H locs hP hD hS => ?_)
        rw [show (nI (L.length - 1 - k)).toNatClampNeg = L.length - 1 - k from nI_clamp (by omega)] at hP hD
        have hP : va_P (dC, dI) vwCl [(a, .inl (cA, (L.length, .inl (atL L)))), (nq_1, .inl (cA, (L.length, .inl (upd f (L.length - 1 - k) (-(atL L k))))))] H := hP
        have hD : va_D A [(a, .inl (cA, (L.length, .inl (atL L)))), (nq_1, .inl (cA, (L.length, .inl (upd f (L.length - 1 - k) (-(atL L k))))))] := hD
        refine lv_iinc (v := nI (k + 1)) (lv' := [(2, .int (nI (k + 1))), (1, .ref nq_1), (0, .ref a)]) hx hb dX2_turned_25 hl (k := 0) rfl (g_inc _) (by decide) rfl (fun ls hl => ?_)
        refine lv_goto (tgt := 7) hx hb dX2_turned_28 (by decide) ?_
        exact ih7 (k + 1) (upd f (L.length - 1 - k) (-(atL L k))) (by omega) (ar_turn hf (by omega)) (by omega) _ _ hP hD hS _ (lv_sub hl [0, 1, 2] rfl)
  exact lp7 ((L.length - 0) + 1) 0 (fun _ => 0) (Nat.zero_le _) (fun t h1 h2 => absurd h1 (by omega)) (Nat.lt_succ_self _) _ _ hP hD hS _ (lv_sub hl [0, 1, 2] rfl)
