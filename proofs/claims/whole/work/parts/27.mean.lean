/-! 27: the mean of the heights, on both sides -/
set_option maxRecDepth 100000 in
theorem mn_c1 : ∀ n, n < 20 → ∀ t, t ≤ 4 * (n + 1) → FP.ddiv (FP.i2d (nI (n + 1 + t))) (FP.i2d (nI (n + 1))) &&& 0x7fffffffffffffff ≤ 0x7ff0000000000000 := by decide +kernel
set_option maxRecDepth 100000 in
theorem mn_c2 : ∀ n, n < 20 → ∀ t, t ≤ 4 * (n + 21) → FP.ddiv (FP.i2d (nI (n + 21 + t))) (FP.i2d (nI (n + 21))) &&& 0x7fffffffffffffff ≤ 0x7ff0000000000000 := by decide +kernel
set_option maxRecDepth 100000 in
theorem mn_c3 : ∀ n, n < 20 → ∀ t, t ≤ 4 * (n + 41) → FP.ddiv (FP.i2d (nI (n + 41 + t))) (FP.i2d (nI (n + 41))) &&& 0x7fffffffffffffff ≤ 0x7ff0000000000000 := by decide +kernel
theorem mn_c {n s : Nat} (h1 : 1 ≤ n) (h60 : n ≤ 60) (hs : n ≤ s) (hs2 : s ≤ 5 * n) : vf_n64 (FP.ddiv (FP.i2d (nI s)) (FP.i2d (nI n))) := by
  by_cases a : n ≤ 20
  · have := mn_c1 (n - 1) (by omega) (s - n) (by omega)
    rw [show n - 1 + 1 + (s - n) = s by omega, show n - 1 + 1 = n by omega] at this
    exact this
  · by_cases b : n ≤ 40
    · have := mn_c2 (n - 21) (by omega) (s - n) (by omega)
      rw [show n - 21 + 21 + (s - n) = s by omega, show n - 21 + 21 = n by omega] at this
      exact this
    · have := mn_c3 (n - 41) (by omega) (s - n) (by omega)
      rw [show n - 41 + 41 + (s - n) = s by omega, show n - 41 + 41 = n by omega] at this
      exact this
theorem acc_b {rn : Nat} (hr : rn ∈ rnS) (h6 : rn ≤ 6) {L : List Int32} (h : okL rn L) : ∀ {k : Nat}, k ≤ L.length → ∃ s, accL L abI k = nI s ∧ k ≤ s ∧ s ≤ 5 * k
  | 0, _ => ⟨0, rfl, Nat.le_refl _, Nat.le_refl _⟩
  | k + 1, hk => by
    obtain ⟨s, h1, h2, h3⟩ := acc_b hr h6 h (k := k) (by omega)
    obtain ⟨q1, q2, q3⟩ := ok_h rn hr _ (okL_at h (show k < L.length by omega))
    refine ⟨s + (abI (atL L k)).toNatClampNeg, ?_, by omega, by omega⟩
    show accL L abI k + abI (atL L k) = _
    rw [h1, ← nI_add, ← q3]
/-- the mean of two words' heights -/
def mnV (L0 L1 : List Int32) : UInt64 := if L0.length + L1.length = 0 then 0 else FP.ddiv (FP.i2d (accL L0 abI L0.length + accL L1 abI L1.length)) (FP.i2d (nI (L0.length + L1.length)))
theorem mn_n64 {rn : Nat} (hr : rn ∈ rnS) (h6 : rn ≤ 6) {L0 L1 : List Int32} (h0 : okL rn L0) (h1 : okL rn L1) (l0 : L0.length ≤ 30) (l1 : L1.length ≤ 30) (hn : ¬ L0.length + L1.length = 0) : vf_n64 (FP.ddiv (FP.i2d (accL L0 abI L0.length + accL L1 abI L1.length)) (FP.i2d (nI (L0.length + L1.length)))) := by
  obtain ⟨s, a1, a2, a3⟩ := acc_b hr h6 h0 (Nat.le_refl _)
  obtain ⟨t, b1, b2, b3⟩ := acc_b hr h6 h1 (Nat.le_refl _)
  rw [a1, b1, nI_add]
  exact mn_c (by omega) (by omega) (by omega) (by omega)
set_option maxRecDepth 20000 in
theorem in_X2_mean_2 : ∀ w ∈ wsX20, w ∈ wsX2_mean := by decide +kernel
set_option maxRecDepth 20000 in
theorem in_X1_mean_1 : ∀ w ∈ wsX10, w ∈ wsX1_mean := by decide +kernel
theorem hdX1_heightsAdded : yX1_heightsAdded.cls ≠ "java/lang/invoke/MethodHandle" ∧ yX1_heightsAdded.cls ≠ "java/lang/invoke/VarHandle" ∧ (parseMethodDescriptor yX1_heightsAdded.desc).map (fun d => d.parameters.length) = some 1 := by decide +kernel
abbrev mt_X2_mean_rm : Room := { frames := 1, cells := 0, slots := 0, locals := 22 }
set_option maxHeartbeats 4000000 in
set_option maxRecDepth 100000 in
theorem mt_X2_mean (l : Launch) (dC : Nat → ClassId) (dI : Nat → Nat → Nat) (cA : ClassId) (sz : Nat) (y0 : Nat) (q1 : Nat) (q2 : Nat) (q3 : Nat) (q4 : Nat) (q5 : Nat) (rn : Nat) (tv : Int32) (sf : Nat → Int32) (lf : Nat → Int32) (mn : Int32) (rf : Nat → Int32) (nf : Nat → Int32) (ct : Int32) (il : Int32) (gf : Nat → Int32) (Vw : Nat → List Int32) (hW : MW Vw sf lf) (hrn : rn ∈ rnS) (hr6 : rn ≤ 6) (hok : ∀ w, w < 2 → okL rn (Vw w)) : Met l yX2_mean wsX2_mean mt_X2_mean_rm (va_Pc [.ref y0] (gB (dC, dI) [(cA, .int)] [(y0, .inr (2, [.int tv, .int (nI rn), .ref q1, .ref q2, .int mn, .ref q3, .ref q4, .int ct, .int il, .ref q5])), (q1, .inl (cA, (2, .inl sf))), (q2, .inl (cA, (60, .inl lf))), (q3, .inl (cA, (320, .inl rf))), (q4, .inl (cA, (320, .inl nf))), (q5, .inl (cA, (6, .inl gf)))] sz)) (gM (dC, dI) (some (.double (mnV (Vw 0) (Vw 1)))) (fun u : Unit => True) (fun u : Unit => [(y0, .inr (2, [.int 0, .int (nI rn), .ref q1, .ref q2, .int mn, .ref q3, .ref q4, .int ct, .int il, .ref q5])), (q1, .inl (cA, (2, .inl sf))), (q2, .inl (cA, (60, .inl lf))), (q3, .inl (cA, (320, .inl rf))), (q4, .inl (cA, (320, .inl nf))), (q5, .inl (cA, (6, .inl gf)))]) (va_A [(y0, .inr (2, [.int tv, .int (nI rn), .ref q1, .ref q2, .int mn, .ref q3, .ref q4, .int ct, .int il, .ref q5])), (q1, .inl (cA, (2, .inl sf))), (q2, .inl (cA, (60, .inl lf))), (q3, .inl (cA, (320, .inl rf))), (q4, .inl (cA, (320, .inl nf))), (q5, .inl (cA, (6, .inl gf)))] sz)) 0 0 (va_A [(y0, .inr (2, [.int tv, .int (nI rn), .ref q1, .ref q2, .int mn, .ref q3, .ref q4, .int ct, .int il, .ref q5])), (q1, .inl (cA, (2, .inl sf))), (q2, .inl (cA, (60, .inl lf))), (q3, .inl (cA, (320, .inl rf))), (q4, .inl (cA, (320, .inl nf))), (q5, .inl (cA, (6, .inl gf)))] sz) := by
  refine g_ofM (cc := cX2_mean) (maxL := 4) (ret := (some .double)) (by decide) rfl (Nat.le_of_ble_eq_true rfl) (fun p e s m below meth c ls hx hb hr hml hts hown hlocks hP hK hl hin A hA hD hS => ?_)
  have hl : lv_has ls 4 [(0, .ref y0)] := hl
  have hWa := (hW 0 (by omega)).2.1
  have hWb := (hW 1 (by omega)).2.1
  refine lv_aload_n hx hb dX2_mean_0 rfl (lv_at hl 0 rfl) ?_
  refine lv_iconst (v := 0) hx hb dX2_mean_1 (by decide) ?_
  refine va_put (D := (dC, dI)) (ci := 2) (v := .int 0) (ty := .int) (C := RX2) (T := TX2) (N := 10) hx hb hts (in_X2_mean_2) tyX2 tyX2_ok nmX2 hown hK hP hD hS 0 rfl rfl 0 (by decide) (hts (.fieldLink RX2 29 "BraidWordsModel" "thrown" "I") (List.mem_of_getElem? (i := 1) rfl)) (fun _ h9 => h9) rfl (by decide +kernel) rfl rfl (Nat.le_of_ble_eq_true rfl) dX2_mean_2 (fun H locs hP hD hS => ?_)
  have hP : va_P (dC, dI) vwCl [(y0, .inr (2, [.int 0, .int (nI rn), .ref q1, .ref q2, .int mn, .ref q3, .ref q4, .int ct, .int il, .ref q5])), (q1, .inl (cA, (2, .inl sf))), (q2, .inl (cA, (60, .inl lf))), (q3, .inl (cA, (320, .inl rf))), (q4, .inl (cA, (320, .inl nf))), (q5, .inl (cA, (6, .inl gf)))] H := hP
  have hD : va_D A [(y0, .inr (2, [.int 0, .int (nI rn), .ref q1, .ref q2, .int mn, .ref q3, .ref q4, .int ct, .int il, .ref q5])), (q1, .inl (cA, (2, .inl sf))), (q2, .inl (cA, (60, .inl lf))), (q3, .inl (cA, (320, .inl rf))), (q4, .inl (cA, (320, .inl nf))), (q5, .inl (cA, (6, .inl gf)))] := hD
  refine lv_iconst (v := 0) hx hb dX2_mean_5 (by decide) ?_
  refine lv_istore_n (lv' := [(1, .int 0), (0, .ref y0)]) hx hb dX2_mean_6 rfl hl (by decide) rfl (fun ls hl => ?_)
  refine lv_iconst (v := 0) hx hb dX2_mean_7 (by decide) ?_
  refine lv_istore_n (lv' := [(2, .int 0), (1, .int 0), (0, .ref y0)]) hx hb dX2_mean_8 rfl hl (by decide) rfl (fun ls hl => ?_)
  refine lv_iload_n hx hb dX2_mean_9 rfl (lv_at hl 0 rfl) ?_
  refine lv_iconst (v := 2) hx hb dX2_mean_10 (by decide) ?_
  refine lv_icmp_ge (tgt := 50) hx hb dX2_mean_11 (by decide) (fun c11 => ?_) (fun c11 => ?_)
  · exact absurd c11 (by decide)
  · have c11 : 0 < 2 := g_geF 0 2 (by omega) (by omega) c11
    refine lv_iconst (v := 0) hx hb dX2_mean_14 (by decide) ?_
    refine lv_istore_n (lv' := [(3, .int 0), (2, .int 0), (1, .int 0), (0, .ref y0)]) hx hb dX2_mean_15 rfl hl (by decide) rfl (fun ls hl => ?_)
    have lpm016 : ∀ (d : Nat) (k0 : Nat) (hk0 : k0 ≤ (Vw 0).length), (Vw 0).length - k0 < d → ∀ (H : Heap) (locs : List Loc), va_P (dC, dI) vwCl [(y0, .inr (2, [.int 0, .int (nI rn), .ref q1, .ref q2, .int mn, .ref q3, .ref q4, .int ct, .int il, .ref q5])), (q1, .inl (cA, (2, .inl sf))), (q2, .inl (cA, (60, .inl lf))), (q3, .inl (cA, (320, .inl rf))), (q4, .inl (cA, (320, .inl nf))), (q5, .inl (cA, (6, .inl gf)))] H → va_D A [(y0, .inr (2, [.int 0, .int (nI rn), .ref q1, .ref q2, .int mn, .ref q3, .ref q4, .int ct, .int il, .ref q5])), (q1, .inl (cA, (2, .inl sf))), (q2, .inl (cA, (60, .inl lf))), (q3, .inl (cA, (320, .inl rf))), (q4, .inl (cA, (320, .inl nf))), (q5, .inl (cA, (6, .inl gf)))] → va_S A s.heap H locs → ∀ ls : Array Slot, lv_has ls 4 [(3, .int (nI k0)), (1, .int (accL (Vw 0) abI k0)), (2, .int 0), (0, .ref y0)] → W p l e mt_X2_mean_rm s m ([.ref y0] : List Value).toArray below meth c H locs 0 0 (MQ below (gM (dC, dI) (some (.double (mnV (Vw 0) (Vw 1)))) (fun u : Unit => True) (fun u : Unit => [(y0, .inr (2, [.int 0, .int (nI rn), .ref q1, .ref q2, .int mn, .ref q3, .ref q4, .int ct, .int il, .ref q5])), (q1, .inl (cA, (2, .inl sf))), (q2, .inl (cA, (60, .inl lf))), (q3, .inl (cA, (320, .inl rf))), (q4, .inl (cA, (320, .inl nf))), (q5, .inl (cA, (6, .inl gf)))]) A) ([.ref y0] : List Value).toArray s 0 0 A) (F0 m 16 ls []) := by
      intro d
      induction d with
      | zero => intro k0 hk0 hd; exact absurd hd (Nat.not_lt_zero _)
      | succ d ih16 =>
        intro k0 hk0 hd H locs hP hD hS ls hl
        refine lv_iload_n hx hb dX2_mean_16 rfl (lv_at hl 0 rfl) ?_
        refine lv_aload_n hx hb dX2_mean_17 rfl (lv_at hl 3 rfl) ?_
        refine va_get (D := (dC, dI)) (ci := 2) (v := .ref q1) (C := RX2) (T := TX2) (N := 10) hx hb hts (in_X2_mean_2) hown hK hP 0 rfl rfl 2 (by decide) (hts (.fieldLink RX2 13 "BraidWordsModel" "size" "[I") (List.mem_of_getElem? (i := 2) rfl)) (fun _ h9 => h9) rfl dX2_mean_18 ?_
        refine lv_iload_n hx hb dX2_mean_21 rfl (lv_at hl 2 rfl) ?_
        refine va_iald hx hb hK hP 1 0 rfl rfl (vp_in_nI (n := 0) (by omega) (by decide)) dX2_mean_22 ?_
        rw [show (0 : Int32).toNatClampNeg = 0 from by decide]
        rw [(hW 0 (by omega)).1]
        refine lv_icmp_ge (tgt := 44) hx hb dX2_mean_23 (by decide) (fun c23 => ?_) (fun c23 => ?_)
        · have c23 : ((Vw 0).length) ≤ k0 := g_geT k0 ((Vw 0).length) (by omega) (by omega) c23
          have hke0 : k0 = (Vw 0).length := by omega
          rw [hke0] at hl
          refine lv_iinc (v := 1) (lv' := [(2, .int 1), (3, .int (nI ((Vw 0).length))), (1, .int (accL (Vw 0) abI (Vw 0).length)), (0, .ref y0)]) hx hb dX2_mean_44 hl (k := 2) rfl (by decide) (by decide) rfl (fun ls hl => ?_)
          refine lv_goto (tgt := 9) hx hb dX2_mean_47 (by decide) ?_
          refine lv_iload_n hx hb dX2_mean_9 rfl (lv_at hl 0 rfl) ?_
          refine lv_iconst (v := 2) hx hb dX2_mean_10 (by decide) ?_
          refine lv_icmp_ge (tgt := 50) hx hb dX2_mean_11 (by decide) (fun c11_1 => ?_) (fun c11_1 => ?_)
          · exact absurd c11_1 (by decide)
          · have c11_1 : 1 < 2 := g_geF 1 2 (by omega) (by omega) c11_1
            refine lv_iconst (v := 0) hx hb dX2_mean_14 (by decide) ?_
            refine lv_istore_n (lv' := [(3, .int 0), (2, .int 1), (1, .int (accL (Vw 0) abI (Vw 0).length)), (0, .ref y0)]) hx hb dX2_mean_15 rfl hl (by decide) rfl (fun ls hl => ?_)
            rw [show accL (Vw 0) abI (Vw 0).length = accL (Vw 0) abI (Vw 0).length + accL (Vw 1) abI 0 from (Int32.add_zero _).symm] at hl
            have lpm116 : ∀ (d : Nat) (k1 : Nat) (hk1 : k1 ≤ (Vw 1).length), (Vw 1).length - k1 < d → ∀ (H : Heap) (locs : List Loc), va_P (dC, dI) vwCl [(y0, .inr (2, [.int 0, .int (nI rn), .ref q1, .ref q2, .int mn, .ref q3, .ref q4, .int ct, .int il, .ref q5])), (q1, .inl (cA, (2, .inl sf))), (q2, .inl (cA, (60, .inl lf))), (q3, .inl (cA, (320, .inl rf))), (q4, .inl (cA, (320, .inl nf))), (q5, .inl (cA, (6, .inl gf)))] H → va_D A [(y0, .inr (2, [.int 0, .int (nI rn), .ref q1, .ref q2, .int mn, .ref q3, .ref q4, .int ct, .int il, .ref q5])), (q1, .inl (cA, (2, .inl sf))), (q2, .inl (cA, (60, .inl lf))), (q3, .inl (cA, (320, .inl rf))), (q4, .inl (cA, (320, .inl nf))), (q5, .inl (cA, (6, .inl gf)))] → va_S A s.heap H locs → ∀ ls : Array Slot, lv_has ls 4 [(3, .int (nI k1)), (1, .int (accL (Vw 0) abI (Vw 0).length + accL (Vw 1) abI k1)), (2, .int 1), (0, .ref y0)] → W p l e mt_X2_mean_rm s m ([.ref y0] : List Value).toArray below meth c H locs 0 0 (MQ below (gM (dC, dI) (some (.double (mnV (Vw 0) (Vw 1)))) (fun u : Unit => True) (fun u : Unit => [(y0, .inr (2, [.int 0, .int (nI rn), .ref q1, .ref q2, .int mn, .ref q3, .ref q4, .int ct, .int il, .ref q5])), (q1, .inl (cA, (2, .inl sf))), (q2, .inl (cA, (60, .inl lf))), (q3, .inl (cA, (320, .inl rf))), (q4, .inl (cA, (320, .inl nf))), (q5, .inl (cA, (6, .inl gf)))]) A) ([.ref y0] : List Value).toArray s 0 0 A) (F0 m 16 ls []) := by
              intro d
              induction d with
              | zero => intro k1 hk1 hd; exact absurd hd (Nat.not_lt_zero _)
              | succ d ih16 =>
                intro k1 hk1 hd H locs hP hD hS ls hl
                refine lv_iload_n hx hb dX2_mean_16 rfl (lv_at hl 0 rfl) ?_
                refine lv_aload_n hx hb dX2_mean_17 rfl (lv_at hl 3 rfl) ?_
                refine va_get (D := (dC, dI)) (ci := 2) (v := .ref q1) (C := RX2) (T := TX2) (N := 10) hx hb hts (in_X2_mean_2) hown hK hP 0 rfl rfl 2 (by decide) (hts (.fieldLink RX2 13 "BraidWordsModel" "size" "[I") (List.mem_of_getElem? (i := 2) rfl)) (fun _ h9 => h9) rfl dX2_mean_18 ?_
                refine lv_iload_n hx hb dX2_mean_21 rfl (lv_at hl 2 rfl) ?_
                refine va_iald hx hb hK hP 1 0 rfl rfl (vp_in_nI (n := 1) (by omega) (by decide)) dX2_mean_22 ?_
                rw [show (1 : Int32).toNatClampNeg = 1 from by decide]
                rw [(hW 1 (by omega)).1]
                refine lv_icmp_ge (tgt := 44) hx hb dX2_mean_23 (by decide) (fun c23_2 => ?_) (fun c23_2 => ?_)
                · have c23_2 : ((Vw 1).length) ≤ k1 := g_geT k1 ((Vw 1).length) (by omega) (by omega) c23_2
                  have hke1 : k1 = (Vw 1).length := by omega
                  rw [hke1] at hl
                  refine lv_iinc (v := 2) (lv' := [(2, .int 2), (3, .int (nI ((Vw 1).length))), (1, .int (accL (Vw 0) abI (Vw 0).length + accL (Vw 1) abI (Vw 1).length)), (0, .ref y0)]) hx hb dX2_mean_44 hl (k := 2) rfl (by decide) (by decide) rfl (fun ls hl => ?_)
                  refine lv_goto (tgt := 9) hx hb dX2_mean_47 (by decide) ?_
                  refine lv_iload_n hx hb dX2_mean_9 rfl (lv_at hl 0 rfl) ?_
                  refine lv_iconst (v := 2) hx hb dX2_mean_10 (by decide) ?_
                  refine lv_icmp_ge (tgt := 50) hx hb dX2_mean_11 (by decide) (fun c11_3 => ?_) (fun c11_3 => ?_)
                  · have c11_3 : 2 ≤ 2 := g_geT 2 2 (by omega) (by omega) c11_3
                    refine lv_aload_n hx hb dX2_mean_50 rfl (lv_at hl 3 rfl) ?_
                    refine va_get (D := (dC, dI)) (ci := 2) (v := .ref q1) (C := RX2) (T := TX2) (N := 10) hx hb hts (in_X2_mean_2) hown hK hP 0 rfl rfl 2 (by decide) (hts (.fieldLink RX2 13 "BraidWordsModel" "size" "[I") (List.mem_of_getElem? (i := 2) rfl)) (fun _ h9 => h9) rfl dX2_mean_51 ?_
                    refine lv_iconst (v := 0) hx hb dX2_mean_54 (by decide) ?_
                    refine va_iald hx hb hK hP 1 0 rfl rfl (vp_in_nI (n := 0) (by omega) (by decide)) dX2_mean_55 ?_
                    rw [show (0 : Int32).toNatClampNeg = 0 from by decide]
                    rw [(hW 0 (by omega)).1]
                    refine lv_aload_n hx hb dX2_mean_56 rfl (lv_at hl 3 rfl) ?_
                    refine va_get (D := (dC, dI)) (ci := 2) (v := .ref q1) (C := RX2) (T := TX2) (N := 10) hx hb hts (in_X2_mean_2) hown hK hP 0 rfl rfl 2 (by decide) (hts (.fieldLink RX2 13 "BraidWordsModel" "size" "[I") (List.mem_of_getElem? (i := 2) rfl)) (fun _ h9 => h9) rfl dX2_mean_57 ?_
                    refine lv_iconst (v := 1) hx hb dX2_mean_60 (by decide) ?_
                    refine va_iald hx hb hK hP 1 0 rfl rfl (vp_in_nI (n := 1) (by omega) (by decide)) dX2_mean_61 ?_
                    rw [show (1 : Int32).toNatClampNeg = 1 from by decide]
                    rw [(hW 1 (by omega)).1]
                    refine lv_iadd hx hb dX2_mean_62 ?_
                    rw [show (nI ((Vw 0).length)) + (nI ((Vw 1).length)) = nI ((Vw 0).length + (Vw 1).length) from nI_add ((Vw 0).length) ((Vw 1).length)]
                    refine lv_if_ne (tgt := 70) hx hb dX2_mean_63 (by decide) (fun c63 => ?_) (fun c63 => ?_)
                    · have c63 : ¬ ((Vw 0).length + (Vw 1).length) = 0 := g_neT ((Vw 0).length + (Vw 1).length) 0 (by omega) (by omega) c63
                      refine lv_iload_n hx hb dX2_mean_70 rfl (lv_at hl 2 rfl) ?_
                      refine lv_i2d hx hb dX2_mean_71 ?_
                      refine lv_aload_n hx hb dX2_mean_72 rfl (lv_at hl 3 rfl) ?_
                      refine va_get (D := (dC, dI)) (ci := 2) (v := .ref q1) (C := RX2) (T := TX2) (N := 10) hx hb hts (in_X2_mean_2) hown hK hP 0 rfl rfl 2 (by decide) (hts (.fieldLink RX2 13 "BraidWordsModel" "size" "[I") (List.mem_of_getElem? (i := 2) rfl)) (fun _ h9 => h9) rfl dX2_mean_73 ?_
                      refine lv_iconst (v := 0) hx hb dX2_mean_76 (by decide) ?_
                      refine va_iald hx hb hK hP 1 0 rfl rfl (vp_in_nI (n := 0) (by omega) (by decide)) dX2_mean_77 ?_
                      rw [show (0 : Int32).toNatClampNeg = 0 from by decide]
                      rw [(hW 0 (by omega)).1]
                      refine lv_aload_n hx hb dX2_mean_78 rfl (lv_at hl 3 rfl) ?_
                      refine va_get (D := (dC, dI)) (ci := 2) (v := .ref q1) (C := RX2) (T := TX2) (N := 10) hx hb hts (in_X2_mean_2) hown hK hP 0 rfl rfl 2 (by decide) (hts (.fieldLink RX2 13 "BraidWordsModel" "size" "[I") (List.mem_of_getElem? (i := 2) rfl)) (fun _ h9 => h9) rfl dX2_mean_79 ?_
                      refine lv_iconst (v := 1) hx hb dX2_mean_82 (by decide) ?_
                      refine va_iald hx hb hK hP 1 0 rfl rfl (vp_in_nI (n := 1) (by omega) (by decide)) dX2_mean_83 ?_
                      rw [show (1 : Int32).toNatClampNeg = 1 from by decide]
                      rw [(hW 1 (by omega)).1]
                      refine lv_iadd hx hb dX2_mean_84 ?_
                      rw [show (nI ((Vw 0).length)) + (nI ((Vw 1).length)) = nI ((Vw 0).length + (Vw 1).length) from nI_add ((Vw 0).length) ((Vw 1).length)]
                      refine lv_i2d hx hb dX2_mean_85 ?_
                      refine lv_ddiv hx hb dX2_mean_86 (mn_n64 hrn hr6 (hok 0 (by omega)) (hok 1 (by omega)) hWa hWb c63) ?_
                      exact g_endMd hx hb hr hlocks hP hS dX2_mean_87 () rfl (by unfold mnV; rw [if_neg (by omega)]) trivial
                    · have c63 : ((Vw 0).length + (Vw 1).length) = 0 := g_neF ((Vw 0).length + (Vw 1).length) 0 (by omega) (by omega) c63
                      refine lv_dconst0 hx hb dX2_mean_66 ?_
                      refine lv_goto (tgt := 87) hx hb dX2_mean_67 (by decide) ?_
                      exact g_endMd hx hb hr hlocks hP hS dX2_mean_87 () rfl (by unfold mnV; rw [if_pos (by omega)]; rfl) trivial
                  · exact absurd (by decide) c11_3
                · have c23_2 : k1 < ((Vw 1).length) := g_geF k1 ((Vw 1).length) (by omega) (by omega) c23_2
                  refine lv_iload_n hx hb dX2_mean_26 rfl (lv_at hl 1 rfl) ?_
                  refine lv_aload_n hx hb dX2_mean_27 rfl (lv_at hl 3 rfl) ?_
                  refine lv_iload_n hx hb dX2_mean_28 rfl (lv_at hl 2 rfl) ?_
                  refine lv_iload_n hx hb dX2_mean_29 rfl (lv_at hl 0 rfl) ?_
                  refine g_RVi (As := [.int 1, .int (nI k1)]) (rest := [.int (accL (Vw 0) abI (Vw 0).length + accL (Vw 1) abI k1)]) ⟨hx, hb, hml, hown, hts⟩ (mt_X2_at l dC dI cA H.size y0 q1 q2 q3 q4 q5 rn 0 sf lf mn rf nf ct il gf 1 k1 (by first | omega | (simp only [List.length_append, List.length_cons, List.length_nil, List.length_set, turnL_len]; omega)) (by first | omega | (simp only [List.length_append, List.length_cons, List.length_nil, List.length_set, turnL_len]; omega))) (cwV 2 hts gX2_mean_X2_at rfl rfl rfl hdX2_at ⟨Nat.le_of_ble_eq_true rfl, Nat.le_of_ble_eq_true rfl⟩) hP hK hD [0, 1, 2, 3, 4, 5] (by decide) rfl (va_recv hK hP (ci := 2) (q0 := 0) rfl rfl) rfl hl.1 rfl (Nat.le_of_ble_eq_true rfl) dX2_mean_30 (Nat.zero_le _) (Nat.zero_le _) ?_
                  rw [(hW 1 (by omega)).2.2 k1 (by omega)]
                  refine va_mabs hx hb (hml.trans hl.1.symm) hown (hts (.methodLink RX2 47 Lib.Math.abs.name) (List.mem_of_getElem? (i := 3) rfl)) (hts (.static Lib.Math.abs.name) (List.mem_of_getElem? (i := 4) rfl)) (hts (.initialized "java/lang/Math") (List.mem_of_getElem? (i := 5) rfl)) (hts (.code Lib.Math.abs.name Lib.Math.abs.code 1 (some .int)) (List.mem_of_getElem? (i := 6) rfl)) (Nat.le_of_ble_eq_true rfl) (Nat.le_of_ble_eq_true rfl) (Nat.zero_le _) (Nat.zero_le _) dX2_mean_33 ?_
                  rw [mabs_eq]
                  refine lv_iadd hx hb dX2_mean_36 ?_
                  rw [show accL (Vw 0) abI (Vw 0).length + accL (Vw 1) abI k1 + abI (atL (Vw 1) k1) = accL (Vw 0) abI (Vw 0).length + accL (Vw 1) abI (k1 + 1) from Int32.add_assoc _ _ _]
                  refine lv_istore_n (lv' := [(1, .int (accL (Vw 0) abI (Vw 0).length + accL (Vw 1) abI (k1 + 1))), (3, .int (nI k1)), (2, .int 1), (0, .ref y0)]) hx hb dX2_mean_37 rfl hl (by decide) rfl (fun ls hl => ?_)
                  refine lv_iinc (v := nI (k1 + 1)) (lv' := [(3, .int (nI (k1 + 1))), (1, .int (accL (Vw 0) abI (Vw 0).length + accL (Vw 1) abI (k1 + 1))), (2, .int 1), (0, .ref y0)]) hx hb dX2_mean_38 hl (k := 1) rfl (g_inc _) (by decide) rfl (fun ls hl => ?_)
                  refine lv_goto (tgt := 16) hx hb dX2_mean_41 (by decide) ?_
                  exact ih16 (k1 + 1) (by omega) (by omega) _ _ hP hD hS _ (lv_sub hl [0, 1, 2, 3] rfl)
            exact lpm116 (((Vw 1).length - 0) + 1) 0 (Nat.zero_le _) (Nat.lt_succ_self _) _ _ hP hD hS _ (lv_sub hl [0, 2, 1, 3] rfl)
        · have c23 : k0 < ((Vw 0).length) := g_geF k0 ((Vw 0).length) (by omega) (by omega) c23
          refine lv_iload_n hx hb dX2_mean_26 rfl (lv_at hl 1 rfl) ?_
          refine lv_aload_n hx hb dX2_mean_27 rfl (lv_at hl 3 rfl) ?_
          refine lv_iload_n hx hb dX2_mean_28 rfl (lv_at hl 2 rfl) ?_
          refine lv_iload_n hx hb dX2_mean_29 rfl (lv_at hl 0 rfl) ?_
          refine g_RVi (As := [.int 0, .int (nI k0)]) (rest := [.int (accL (Vw 0) abI k0)]) ⟨hx, hb, hml, hown, hts⟩ (mt_X2_at l dC dI cA H.size y0 q1 q2 q3 q4 q5 rn 0 sf lf mn rf nf ct il gf 0 k0 (by first | omega | (simp only [List.length_append, List.length_cons, List.length_nil, List.length_set, turnL_len]; omega)) (by first | omega | (simp only [List.length_append, List.length_cons, List.length_nil, List.length_set, turnL_len]; omega))) (cwV 2 hts gX2_mean_X2_at rfl rfl rfl hdX2_at ⟨Nat.le_of_ble_eq_true rfl, Nat.le_of_ble_eq_true rfl⟩) hP hK hD [0, 1, 2, 3, 4, 5] (by decide) rfl (va_recv hK hP (ci := 2) (q0 := 0) rfl rfl) rfl hl.1 rfl (Nat.le_of_ble_eq_true rfl) dX2_mean_30 (Nat.zero_le _) (Nat.zero_le _) ?_
          rw [(hW 0 (by omega)).2.2 k0 (by omega)]
          refine va_mabs hx hb (hml.trans hl.1.symm) hown (hts (.methodLink RX2 47 Lib.Math.abs.name) (List.mem_of_getElem? (i := 3) rfl)) (hts (.static Lib.Math.abs.name) (List.mem_of_getElem? (i := 4) rfl)) (hts (.initialized "java/lang/Math") (List.mem_of_getElem? (i := 5) rfl)) (hts (.code Lib.Math.abs.name Lib.Math.abs.code 1 (some .int)) (List.mem_of_getElem? (i := 6) rfl)) (Nat.le_of_ble_eq_true rfl) (Nat.le_of_ble_eq_true rfl) (Nat.zero_le _) (Nat.zero_le _) dX2_mean_33 ?_
          rw [mabs_eq]
          refine lv_iadd hx hb dX2_mean_36 ?_
          rw [show accL (Vw 0) abI k0 + abI (atL (Vw 0) k0) = accL (Vw 0) abI (k0 + 1) from rfl]
          refine lv_istore_n (lv' := [(1, .int (accL (Vw 0) abI (k0 + 1))), (3, .int (nI k0)), (2, .int 0), (0, .ref y0)]) hx hb dX2_mean_37 rfl hl (by decide) rfl (fun ls hl => ?_)
          refine lv_iinc (v := nI (k0 + 1)) (lv' := [(3, .int (nI (k0 + 1))), (1, .int (accL (Vw 0) abI (k0 + 1))), (2, .int 0), (0, .ref y0)]) hx hb dX2_mean_38 hl (k := 1) rfl (g_inc _) (by decide) rfl (fun ls hl => ?_)
          refine lv_goto (tgt := 16) hx hb dX2_mean_41 (by decide) ?_
          exact ih16 (k0 + 1) (by omega) (by omega) _ _ hP hD hS _ (lv_sub hl [0, 1, 2, 3] rfl)
    exact lpm016 (((Vw 0).length - 0) + 1) 0 (Nat.zero_le _) (Nat.lt_succ_self _) _ _ hP hD hS _ (lv_sub hl [0, 2, 1, 3] rfl)

abbrev mt_X1_mean_rm : Room := { frames := 2, cells := 0, slots := 0, locals := 43 }
set_option maxHeartbeats 4000000 in
set_option maxRecDepth 100000 in
/-- mean -/
theorem mt_X1_mean (l : Launch) (dC : Nat → ClassId) (dI : Nat → Nat → Nat) (cA : ClassId) (sz : Nat) (x0 : Nat) (r0 : Nat) (r1 : Nat) (r2 : Nat) (r3 : Nat) (rn : Nat) (a0 : Nat) (a1 : Nat) (L0 : List Int32) (f0 : Nat → Int32) (L1 : List Int32) (f1 : Nat → Int32) (hR0 : RI L0 f0) (hR1 : RI L1 f1) (hrn : rn ∈ rnS) (hr6 : rn ≤ 6) (hk0 : okL rn L0) (hk1 : okL rn L1) (hl0 : L0.length ≤ 30) (hl1 : L1.length ≤ 30) : Met l yX1_mean wsX1_mean mt_X1_mean_rm (va_Pc [.ref x0] (gB (dC, dI) [(cA, .int)] [(x0, .inr (1, [.ref r0, .ref r1, .ref r2, .ref r3, .int (nI rn)])), (r0, .inr (0, [.ref a0, .int (nI L0.length)])), (a0, .inl (cA, (100, .inl f0))), (r1, .inr (0, [.ref a1, .int (nI L1.length)])), (a1, .inl (cA, (100, .inl f1)))] sz)) (gR (some (.double (mnV L0 L1)))) 0 0 (fun _ => False) := by
  refine g_ofR (cc := cX1_mean) (maxL := 2) (ret := (some .double)) (by decide) rfl (Nat.le_of_ble_eq_true rfl) (fun p e s m below meth c ls hx hb hr hml hts hown hlocks hP hK hl hD => ?_)
  have hS : va_S (fun _ => True) s.heap s.heap [] := va_S.rf
  have hl : lv_has ls 2 [(0, .ref x0)] := hl
  refine lv_aload_n hx hb dX1_mean_0 rfl (lv_at hl 0 rfl) ?_
  refine va_get (D := (dC, dI)) (ci := 1) (v := .ref r0) (C := RX1) (T := TX1) (N := 5) hx hb hts (in_X1_mean_1) hown hK hP 0 rfl rfl 0 (by decide) (hts (.fieldLink RX1 10 "BraidWords" "word0" "LBraidWords$Row;") (List.mem_of_getElem? (i := 1) rfl)) (fun _ h9 => h9) rfl dX1_mean_1 ?_
  refine g_RVi (As := []) (rest := []) ⟨hx, hb, hml, hown, hts⟩ (mt_X0_size l dC dI cA s.heap.size r0 a0 (nI L0.length) f0) (cwV 0 hts gX1_mean_X0_size rfl rfl rfl hdX0_size ⟨Nat.le_of_ble_eq_true rfl, Nat.le_of_ble_eq_true rfl⟩) hP hK hD [1, 2] (by decide) rfl (va_recv hK hP (ci := 0) (q0 := 1) rfl rfl) rfl hl.1 rfl (Nat.le_of_ble_eq_true rfl) dX1_mean_4 (Nat.zero_le _) (Nat.zero_le _) ?_
  refine lv_aload_n hx hb dX1_mean_7 rfl (lv_at hl 0 rfl) ?_
  refine va_get (D := (dC, dI)) (ci := 1) (v := .ref r1) (C := RX1) (T := TX1) (N := 5) hx hb hts (in_X1_mean_1) hown hK hP 0 rfl rfl 1 (by decide) (hts (.fieldLink RX1 16 "BraidWords" "word1" "LBraidWords$Row;") (List.mem_of_getElem? (i := 2) rfl)) (fun _ h9 => h9) rfl dX1_mean_8 ?_
  refine g_RVi (As := []) (rest := [.int (nI L0.length)]) ⟨hx, hb, hml, hown, hts⟩ (mt_X0_size l dC dI cA s.heap.size r1 a1 (nI L1.length) f1) (cwV 0 hts gX1_mean_X0_size rfl rfl rfl hdX0_size ⟨Nat.le_of_ble_eq_true rfl, Nat.le_of_ble_eq_true rfl⟩) hP hK hD [3, 4] (by decide) rfl (va_recv hK hP (ci := 0) (q0 := 3) rfl rfl) rfl hl.1 rfl (Nat.le_of_ble_eq_true rfl) dX1_mean_11 (Nat.zero_le _) (Nat.zero_le _) ?_
  refine lv_iadd hx hb dX1_mean_14 ?_
  rw [show (nI L0.length) + (nI L1.length) = nI (L0.length + L1.length) from nI_add L0.length L1.length]
  refine lv_istore_n (lv' := [(1, .int (nI (L0.length + L1.length))), (0, .ref x0)]) hx hb dX1_mean_15 rfl hl (by decide) rfl (fun ls hl => ?_)
  refine lv_iload_n hx hb dX1_mean_16 rfl (lv_at hl 0 rfl) ?_
  refine lv_if_ne (tgt := 22) hx hb dX1_mean_17 (by decide) (fun c17 => ?_) (fun c17 => ?_)
  · have c17 : ¬ (L0.length + L1.length) = 0 := g_neT (L0.length + L1.length) 0 (by omega) (by omega) c17
    refine lv_aload_n hx hb dX1_mean_22 rfl (lv_at hl 1 rfl) ?_
    refine va_get (D := (dC, dI)) (ci := 1) (v := .ref r0) (C := RX1) (T := TX1) (N := 5) hx hb hts (in_X1_mean_1) hown hK hP 0 rfl rfl 0 (by decide) (hts (.fieldLink RX1 10 "BraidWords" "word0" "LBraidWords$Row;") (List.mem_of_getElem? (i := 1) rfl)) (fun _ h9 => h9) rfl dX1_mean_23 ?_
    refine g_RSi (As := [.ref r0]) (rest := []) ⟨hx, hb, hml, hown, hts⟩ (mt_X1_heightsAdded l dC dI cA s.heap.size r0 a0 L0 f0 hR0) (va_cwS 1 hts gX1_mean_X1_heightsAdded rfl rfl rfl hdX1_heightsAdded ⟨Nat.le_of_ble_eq_true rfl, Nat.le_of_ble_eq_true rfl⟩) hP hK hD [1, 2] (by decide) rfl rfl hl.1 rfl (Nat.le_of_ble_eq_true rfl) dX1_mean_26 (Nat.zero_le _) (Nat.zero_le _) ?_
    refine lv_aload_n hx hb dX1_mean_29 rfl (lv_at hl 1 rfl) ?_
    refine va_get (D := (dC, dI)) (ci := 1) (v := .ref r1) (C := RX1) (T := TX1) (N := 5) hx hb hts (in_X1_mean_1) hown hK hP 0 rfl rfl 1 (by decide) (hts (.fieldLink RX1 16 "BraidWords" "word1" "LBraidWords$Row;") (List.mem_of_getElem? (i := 2) rfl)) (fun _ h9 => h9) rfl dX1_mean_30 ?_
    refine g_RSi (As := [.ref r1]) (rest := [.int (accL L0 abI L0.length)]) ⟨hx, hb, hml, hown, hts⟩ (mt_X1_heightsAdded l dC dI cA s.heap.size r1 a1 L1 f1 hR1) (va_cwS 1 hts gX1_mean_X1_heightsAdded rfl rfl rfl hdX1_heightsAdded ⟨Nat.le_of_ble_eq_true rfl, Nat.le_of_ble_eq_true rfl⟩) hP hK hD [3, 4] (by decide) rfl rfl hl.1 rfl (Nat.le_of_ble_eq_true rfl) dX1_mean_33 (Nat.zero_le _) (Nat.zero_le _) ?_
    refine lv_iadd hx hb dX1_mean_36 ?_
    refine lv_i2d hx hb dX1_mean_37 ?_
    refine lv_iload_n hx hb dX1_mean_38 rfl (lv_at hl 0 rfl) ?_
    refine lv_i2d hx hb dX1_mean_39 ?_
    refine lv_ddiv hx hb dX1_mean_40 (mn_n64 hrn hr6 hk0 hk1 hl0 hl1 c17) ?_
    exact g_endRd hx hb hr hlocks dX1_mean_41 (by unfold mnV; rw [if_neg (by omega)])
  · have c17 : (L0.length + L1.length) = 0 := g_neF (L0.length + L1.length) 0 (by omega) (by omega) c17
    refine lv_dconst0 hx hb dX1_mean_20 ?_
    exact g_endRd hx hb hr hlocks dX1_mean_21 (by unfold mnV; rw [if_pos (by omega)]; rfl)
